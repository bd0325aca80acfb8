set_option maxHeartbeats 4000000 in
theorem c_X0_fillRow {l : Launch} (hl : l.stackTraces = false) {κ : Kp} {h : Nat → Nat} {s : G} {m : Mg} {n a b : Nat} {v : Int32} (hI : IM m n) (hE : EvOK m) (hab : a ≤ b) (hb : b < n) : Ct SS MM l κ yX0_fillRow cX0_fillRow 6 (some FieldType.int) 3 0 0 [.ref (h 0), .int (nI a), .int (nI b), .int v] (eS κ h) (s, m) ri (fun r u => r = nI (fillM n a b v m).1 ∧ ∃ s2, u = (s2, (fillM n a b v m).2)) (fun _ _ => False) := by
  refine Ct.of (own := RX0) (by decide) rfl hl (by intro v hv; simp only [List.mem_cons, List.not_mem_nil, or_false] at hv; first | (rcases hv with rfl | rfl | rfl | rfl | rfl | rfl <;> rfl) | (rcases hv with rfl | rfl | rfl | rfl | rfl <;> rfl) | (rcases hv with rfl | rfl | rfl | rfl <;> rfl) | (rcases hv with rfl | rfl | rfl <;> rfl) | (rcases hv with rfl | rfl <;> rfl) | (subst hv; rfl) | exact hv.elim) (Nat.le_of_ble_eq_true rfl) (fun X hxl hxk C F N => ?_)
  subst hxl hxk
  show V X (eS (xK X) h) 0 [some (.ref (h 0)), some (.int (nI a)), some (.int (nI b)), some (.int v), none, none] [] (s, m) 0 0
  have h96 := hI.2.1
  have hd := depM_ok (T := rowT a b) hI
  have hyI := hd.1.im hI
  have hyE := hd.1.1.2.2.2.2 hE
  refine v_aload_n C dX0_fillRow_0 rfl ?_
  refine v_iload_n C dX0_fillRow_1 rfl ?_
  refine v_iload_n C dX0_fillRow_2 rfl ?_
  refine v_callVv C (c_X0_touchRow hl (a := a) (b := b) (by omega) (by omega)) ym_X0_touchRow ml_X0_36 emb_id_eS rfl rfl rfl rfl rfl dX0_fillRow_3 (Nat.le_of_ble_eq_true rfl) (Nat.le_of_ble_eq_true rfl) (Nat.le_of_ble_eq_true rfl) (Nat.le_of_ble_eq_true rfl) (fun _ _ hu => hu.elim) (fun r u hu => ?_)
  obtain ⟨s1, hu, hT⟩ := hu
  subst u
  refine v_aload_n C dX0_fillRow_6 rfl ?_
  refine v_callVi C (c_X0_payDependents hl (n := n) (T := rowT a b) hI hE hT) ym_X0_payDependents ml_X0_40 emb_id_eS rfl rfl rfl rfl rfl dX0_fillRow_7 (Nat.le_of_ble_eq_true rfl) (Nat.le_of_ble_eq_true rfl) (Nat.le_of_ble_eq_true rfl) (Nat.le_of_ble_eq_true rfl) (fun _ _ hu => hu.elim) (fun r u hu => ?_)
  obtain ⟨rfl, hu⟩ := hu
  subst u
  refine v_istore C (lo2 := [some _, some _, some _, some _, some _, none]) dX0_fillRow_10 rfl (Nat.le_of_ble_eq_true rfl) rfl ?_
  refine v_aload_n C dX0_fillRow_12 rfl ?_
  refine v_callVv C (c_X0_dropTouched hl (n := n) (T := rowT a b) hyI.1 h96 hyE hT) ym_X0_dropTouched ml_X0_48 emb_id_eS rfl rfl rfl rfl rfl dX0_fillRow_13 (Nat.le_of_ble_eq_true rfl) (Nat.le_of_ble_eq_true rfl) (Nat.le_of_ble_eq_true rfl) (Nat.le_of_ble_eq_true rfl) (fun _ _ hu => hu.elim) (fun r u hu => ?_)
  subst u
  refine v_iload_n C dX0_fillRow_16 rfl ?_
  refine v_istore C (lo2 := [some _, some _, some _, some _, some _, some _]) dX0_fillRow_17 rfl (Nat.le_of_ble_eq_true rfl) rfl ?_
  have L19 : ∀ (t : Nat × Mg), (fun t => a ≤ t.1 ∧ t.1 ≤ b + 1 ∧ forG (fun p y => byteM y p v) t.1 (b + 1 - t.1) t.2 = (fillM n a b v m).2) t → (fun t : Nat × Mg => V X (eS (xK X) h) 19 [some (.ref (h 0)), some (.int (nI a)), some (.int (nI b)), some (.int v), some (.int (nI (depM (rowT a b) n m).1)), some (.int (nI t.1))] [] (s1, t.2) 0 0) t := by
    refine v_ind (fun t : Nat × Mg => b + 1 - t.1) ?_
    rintro ⟨i, y⟩ ih19 hI19
    try dsimp only at hI19 ⊢
    obtain ⟨i1, i2, i4⟩ := hI19
    refine v_iload C dX0_fillRow_19 rfl ?_
    refine v_iload_n C dX0_fillRow_21 rfl ?_
    first | refine v_icmp_gtN C 42 dX0_fillRow_22 (by decide) (by omega) (by omega) (fun c22 => ?_) (fun c22 => ?_) | refine v_icmp_gt C 42 dX0_fillRow_22 (by decide) (fun c22 => ?_) (fun c22 => ?_)
    · refine v_iload C dX0_fillRow_42 rfl ?_
      refine v_iret C F (by first | rfl | exact bI_nar _) dX0_fillRow_44 (Nat.le_of_ble_eq_true rfl) (Nat.le_of_ble_eq_true rfl) ?_
      rw [forG_0 (by omega)] at i4
      exact ⟨rfl, _, by rw [← i4]⟩
    · refine v_aload_n C dX0_fillRow_25 rfl ?_
      refine v_getr C fl_X0_12 or_eS_0_0 dX0_fillRow_26 ?_
      refine v_getr C fl_X0_51 or_eS_4_0 dX0_fillRow_29 ?_
      refine v_iload C dX0_fillRow_32 rfl ?_
      refine v_iload_n C dX0_fillRow_34 rfl ?_
      refine v_iast C ar_eS_5 (by decide) _ ?_ rfl dX0_fillRow_35 ?_
      · omega
      refine V.stt (g2 := (s1, byteM y i v)) (rfl) ?_
      first | refine v_iinc1 C (lo2 := [some _, some _, some _, some _, some _, some _]) dX0_fillRow_36 rfl rfl rfl ?_ | refine v_iinc C (lo2 := [some _, some _, some _, some _, some _, some _]) dX0_fillRow_36 rfl rfl rfl rfl ?_
      refine v_goto C 19 dX0_fillRow_39 (by decide) ?_
      have hib : i < b + 1 := by omega
      rw [forG_s hib] at i4
      exact ih19 (i + 1, byteM y i v) (by show b + 1 - (i + 1) < b + 1 - i; omega) ⟨by show a ≤ i + 1; omega, by show i + 1 ≤ b + 1; omega, i4⟩
  exact L19 (a, drpM (rowT a b) n (depM (rowT a b) n m).2) ⟨Nat.le_refl _, by show a ≤ b + 1; omega, rfl⟩
set_option maxHeartbeats 4000000 in
theorem c_X0_swapPlaces {l : Launch} (hl : l.stackTraces = false) {κ : Kp} {h : Nat → Nat} {s : G} {m : Mg} {n a b : Nat} (hI : IM m n) (hE : EvOK m) (ha : a < n) (hb : b < n) : Ct SS MM l κ yX0_swapPlaces cX0_swapPlaces 6 (some FieldType.int) 3 0 0 [.ref (h 0), .int (nI a), .int (nI b)] (eS κ h) (s, m) ri (fun r u => r = nI (swapM n a b m).1 ∧ ∃ s2, u = (s2, (swapM n a b m).2)) (fun _ _ => False) := by
  refine Ct.of (own := RX0) (by decide) rfl hl (by intro v hv; simp only [List.mem_cons, List.not_mem_nil, or_false] at hv; first | (rcases hv with rfl | rfl | rfl | rfl | rfl | rfl <;> rfl) | (rcases hv with rfl | rfl | rfl | rfl | rfl <;> rfl) | (rcases hv with rfl | rfl | rfl | rfl <;> rfl) | (rcases hv with rfl | rfl | rfl <;> rfl) | (rcases hv with rfl | rfl <;> rfl) | (subst hv; rfl) | exact hv.elim) (Nat.le_of_ble_eq_true rfl) (fun X hxl hxk C F N => ?_)
  subst hxl hxk
  show V X (eS (xK X) h) 0 [some (.ref (h 0)), some (.int (nI a)), some (.int (nI b)), none, none, none] [] (s, m) 0 0
  have h96 := hI.2.1
  have hd := depM_ok (T := two a b) hI
  have hyI := hd.1.im hI
  have hyE := hd.1.1.2.2.2.2 hE
  refine v_aload_n C dX0_swapPlaces_0 rfl ?_
  refine v_getr C fl_X0_12 or_eS_0_0 dX0_swapPlaces_1 ?_
  refine v_iload_n C dX0_swapPlaces_4 rfl ?_
  refine v_callVi C (c_X2_valueOf hl (n := n) hI ha) ym_X2_valueOf ml_X0_44 emb_e_m rfl rfl rfl rfl rfl dX0_swapPlaces_5 (Nat.le_of_ble_eq_true rfl) (Nat.le_of_ble_eq_true rfl) (Nat.le_of_ble_eq_true rfl) (Nat.le_of_ble_eq_true rfl) (fun _ _ hu => hu.elim) (fun r u hu => ?_)
  obtain ⟨rfl, hu⟩ := hu
  subst u
  refine v_istore_n C (lo2 := [some _, some _, some _, some _, none, none]) dX0_swapPlaces_8 rfl (Nat.le_of_ble_eq_true rfl) rfl ?_
  refine v_aload_n C dX0_swapPlaces_9 rfl ?_
  refine v_getr C fl_X0_12 or_eS_0_0 dX0_swapPlaces_10 ?_
  refine v_iload_n C dX0_swapPlaces_13 rfl ?_
  refine v_callVi C (c_X2_valueOf hl (n := n) hI hb) ym_X2_valueOf ml_X0_44 emb_e_m rfl rfl rfl rfl rfl dX0_swapPlaces_14 (Nat.le_of_ble_eq_true rfl) (Nat.le_of_ble_eq_true rfl) (Nat.le_of_ble_eq_true rfl) (Nat.le_of_ble_eq_true rfl) (fun _ _ hu => hu.elim) (fun r u hu => ?_)
  obtain ⟨rfl, hu⟩ := hu
  subst u
  refine v_istore C (lo2 := [some _, some _, some _, some _, some _, none]) dX0_swapPlaces_17 rfl (Nat.le_of_ble_eq_true rfl) rfl ?_
  refine v_aload_n C dX0_swapPlaces_19 rfl ?_
  refine v_iload_n C dX0_swapPlaces_20 rfl ?_
  refine v_iload_n C dX0_swapPlaces_21 rfl ?_
  refine v_callVv C (c_X0_touchRow hl (a := a) (b := a) (by omega) (by omega)) ym_X0_touchRow ml_X0_36 emb_id_eS rfl rfl rfl rfl rfl dX0_swapPlaces_22 (Nat.le_of_ble_eq_true rfl) (Nat.le_of_ble_eq_true rfl) (Nat.le_of_ble_eq_true rfl) (Nat.le_of_ble_eq_true rfl) (fun _ _ hu => hu.elim) (fun r u hu => ?_)
  obtain ⟨s1, hu, hT⟩ := hu
  subst u
  refine v_aload_n C dX0_swapPlaces_25 rfl ?_
  refine v_getr C fl_X0_18 or_eS_0_1 dX0_swapPlaces_26 ?_
  refine v_iload_n C dX0_swapPlaces_29 rfl ?_
  refine v_iconst (v := nI 1) C dX0_swapPlaces_30 (by decide) ?_
  refine v_zast C ar_eS_1 (by decide) _ ?_ rfl (by first | rfl | exact bI_vp _) dX0_swapPlaces_31 ?_
  · omega
  have hT2 : ∀ p, p < 96 → (sG s1 1 (upd (s1 1) b (nI 1))) 1 p = bI (two a b p) := by
    intro p hp
    show upd (s1 1) b (nI 1) p = _
    by_cases z : p = b
    · subst z
      rw [upd_s]
      exact bI_t (by simp [two])
    · rw [upd_o z, hT p hp]
      exact congrArg bI (decide_eq_decide.mpr ⟨fun w => Or.inl (by omega), fun w => by omega⟩)
  refine V.stt (g2 := (sG s1 1 (upd (s1 1) b (nI 1)), m)) (rfl) ?_
  refine v_aload_n C dX0_swapPlaces_32 rfl ?_
  refine v_callVi C (c_X0_payDependents hl (n := n) (T := two a b) hI hE hT2) ym_X0_payDependents ml_X0_40 emb_id_eS rfl rfl rfl rfl rfl dX0_swapPlaces_33 (Nat.le_of_ble_eq_true rfl) (Nat.le_of_ble_eq_true rfl) (Nat.le_of_ble_eq_true rfl) (Nat.le_of_ble_eq_true rfl) (fun _ _ hu => hu.elim) (fun r u hu => ?_)
  obtain ⟨rfl, hu⟩ := hu
  subst u
  refine v_istore C (lo2 := [some _, some _, some _, some _, some _, some _]) dX0_swapPlaces_36 rfl (Nat.le_of_ble_eq_true rfl) rfl ?_
  refine v_aload_n C dX0_swapPlaces_38 rfl ?_
  refine v_callVv C (c_X0_dropTouched hl (n := n) (T := two a b) hyI.1 h96 hyE hT2) ym_X0_dropTouched ml_X0_48 emb_id_eS rfl rfl rfl rfl rfl dX0_swapPlaces_39 (Nat.le_of_ble_eq_true rfl) (Nat.le_of_ble_eq_true rfl) (Nat.le_of_ble_eq_true rfl) (Nat.le_of_ble_eq_true rfl) (fun _ _ hu => hu.elim) (fun r u hu => ?_)
  subst u
  refine v_aload_n C dX0_swapPlaces_42 rfl ?_
  refine v_getr C fl_X0_12 or_eS_0_0 dX0_swapPlaces_43 ?_
  refine v_getr C fl_X0_51 or_eS_4_0 dX0_swapPlaces_46 ?_
  refine v_iload_n C dX0_swapPlaces_49 rfl ?_
  refine v_iload C dX0_swapPlaces_50 rfl ?_
  refine v_iast C ar_eS_5 (by decide) _ ?_ rfl dX0_swapPlaces_52 ?_
  · omega
  refine V.stt (g2 := (sG s1 1 (upd (s1 1) b (nI 1)), byteM (drpM (two a b) n (depM (two a b) n m).2) a (valM m b))) (rfl) ?_
  refine v_aload_n C dX0_swapPlaces_53 rfl ?_
  refine v_getr C fl_X0_12 or_eS_0_0 dX0_swapPlaces_54 ?_
  refine v_getr C fl_X0_51 or_eS_4_0 dX0_swapPlaces_57 ?_
  refine v_iload_n C dX0_swapPlaces_60 rfl ?_
  refine v_iload_n C dX0_swapPlaces_61 rfl ?_
  refine v_iast C ar_eS_5 (by decide) _ ?_ rfl dX0_swapPlaces_62 ?_
  · omega
  refine V.stt (g2 := (sG s1 1 (upd (s1 1) b (nI 1)), (swapM n a b m).2)) (rfl) ?_
  refine v_iload C dX0_swapPlaces_63 rfl ?_
  refine v_iret C F (by first | rfl | exact bI_nar _) dX0_swapPlaces_65 (Nat.le_of_ble_eq_true rfl) (Nat.le_of_ble_eq_true rfl) ?_
  exact ⟨rfl, _, rfl⟩
set_option maxHeartbeats 4000000 in
theorem c_X0_fetchPlace {l : Launch} (hl : l.stackTraces = false) {κ : Kp} {h : Nat → Nat} {s : G} {m : Mg} {n p : Nat} (hI : IM m n) (hE : EvOK m) (hp : p < n) : Ct SS MM l κ yX0_fetchPlace cX0_fetchPlace 2 (some FieldType.int) 3 0 0 [.ref (h 0), .int (nI p)] (eS κ h) (s, m) ri (fun r u => r = valM (fetchM p m) p ∧ u = (s, fetchM p m)) (fun _ _ => False) := by
  refine Ct.of (own := RX0) (by decide) rfl hl (by intro v hv; simp only [List.mem_cons, List.not_mem_nil, or_false] at hv; first | (rcases hv with rfl | rfl | rfl | rfl | rfl | rfl <;> rfl) | (rcases hv with rfl | rfl | rfl | rfl | rfl <;> rfl) | (rcases hv with rfl | rfl | rfl | rfl <;> rfl) | (rcases hv with rfl | rfl | rfl <;> rfl) | (rcases hv with rfl | rfl <;> rfl) | (subst hv; rfl) | exact hv.elim) (Nat.le_of_ble_eq_true rfl) (fun X hxl hxk C F N => ?_)
  subst hxl hxk
  show V X (eS (xK X) h) 0 [some (.ref (h 0)), some (.int (nI p))] [] (s, m) 0 0
  have h96 := hI.2.1
  have hF : IM (fetM p m) n := IM_of hI rfl rfl
  have hFE : EvOK (fetM p m) := EvOK.of hE rfl
  refine v_aload_n C dX0_fetchPlace_0 rfl ?_
  refine v_getr C fl_X0_12 or_eS_0_0 dX0_fetchPlace_1 ?_
  refine v_getr C fl_X0_29 or_eS_4_5 dX0_fetchPlace_4 ?_
  refine v_bipush (v := nI 8) C dX0_fetchPlace_7 (by decide) ?_
  refine v_dup2 C dX0_fetchPlace_9 rfl rfl ?_
  refine v_ialdQ (x := m 6 8) C ar_eS_10 (by decide) _ (rfl) ?_ rfl dX0_fetchPlace_10 ?_
  · omega
  refine v_iconst (v := nI 1) C dX0_fetchPlace_11 (by decide) ?_
  first | refine v_iaddN C dX0_fetchPlace_12 ?_ | refine v_iadd C dX0_fetchPlace_12 ?_
  refine v_iast C ar_eS_10 (by decide) _ ?_ rfl dX0_fetchPlace_13 ?_
  · omega
  refine V.stt (g2 := (s, accM m 8 (nI 1))) (rfl) ?_
  refine v_aload_n C dX0_fetchPlace_14 rfl ?_
  refine v_getr C fl_X0_12 or_eS_0_0 dX0_fetchPlace_15 ?_
  refine v_getr C fl_X0_29 or_eS_4_5 dX0_fetchPlace_18 ?_
  refine v_bipush (v := nI 6) C dX0_fetchPlace_21 (by decide) ?_
  refine v_dup2 C dX0_fetchPlace_23 rfl rfl ?_
  refine v_ialdQ (x := m 6 6) C ar_eS_10 (by decide) _ (rfl) ?_ rfl dX0_fetchPlace_24 ?_
  · omega
  refine v_aload_n C dX0_fetchPlace_25 rfl ?_
  refine v_getr C fl_X0_12 or_eS_0_0 dX0_fetchPlace_26 ?_
  refine v_iload_n C dX0_fetchPlace_29 rfl ?_
  refine v_callVi C (c_X2_hopsOf hl (g := accM m 8 (nI 1)) (n := n) (IM_of hI rfl rfl) hp) ym_X2_hopsOf ml_X0_76 emb_e_m rfl rfl rfl rfl rfl dX0_fetchPlace_30 (Nat.le_of_ble_eq_true rfl) (Nat.le_of_ble_eq_true rfl) (Nat.le_of_ble_eq_true rfl) (Nat.le_of_ble_eq_true rfl) (fun _ _ hu => hu.elim) (fun r u hu => ?_)
  obtain ⟨rfl, hu⟩ := hu
  subst u
  first | refine v_iaddN C dX0_fetchPlace_33 ?_ | refine v_iadd C dX0_fetchPlace_33 ?_
  refine v_iast C ar_eS_10 (by decide) _ ?_ rfl dX0_fetchPlace_34 ?_
  · omega
  refine V.stt (g2 := (s, fetM p m)) (by rw [hopsM_of (m := m) (m2 := accM m 8 (nI 1)) rfl]; rfl) ?_
  refine v_aload_n C dX0_fetchPlace_35 rfl ?_
  refine v_getr C fl_X0_12 or_eS_0_0 dX0_fetchPlace_36 ?_
  refine v_getr C fl_X0_64 or_eS_4_4 dX0_fetchPlace_39 ?_
  refine v_iconst (v := nI 4) C dX0_fetchPlace_42 (by decide) ?_
  refine v_ialdQ (x := m 5 4) C ar_eS_9 (by decide) _ (rfl) ?_ rfl dX0_fetchPlace_43 ?_
  · omega
  refine v_iconst (v := nI 1) C dX0_fetchPlace_44 (by decide) ?_
  refine v_icmp_ne C 54 dX0_fetchPlace_45 (by decide) (fun c45 => ?_) (fun c45 => ?_)
  · have hfz : IM (fetchM p m) n := by
      by_cases z : m 5 4 = nI 1
      · rw [show fetchM p m = payO 2 (fetM p m) p from if_pos z]
        exact (payO_Pd hp).im hF
      · rw [show fetchM p m = fetM p m from if_neg z]
        exact hF
    first
    | (have hz : fetchM p m = payO 2 (fetM p m) p := if_pos c45
       rw [← hz])
    | (have hz : fetchM p m = fetM p m := if_neg c45
       rw [← hz])
    have hG := hfz
    refine v_aload_n C dX0_fetchPlace_54 rfl ?_
    refine v_getr C fl_X0_12 or_eS_0_0 dX0_fetchPlace_55 ?_
    refine v_iload_n C dX0_fetchPlace_58 rfl ?_
    refine v_callVi C (c_X2_valueOf hl (n := n) hG hp) ym_X2_valueOf ml_X0_44 emb_e_m rfl rfl rfl rfl rfl dX0_fetchPlace_59 (Nat.le_of_ble_eq_true rfl) (Nat.le_of_ble_eq_true rfl) (Nat.le_of_ble_eq_true rfl) (Nat.le_of_ble_eq_true rfl) (fun _ _ hu => hu.elim) (fun r u hu => ?_)
    obtain ⟨rfl, hu⟩ := hu
    subst u
    refine v_iret C F (by first | rfl | exact bI_nar _) dX0_fetchPlace_62 (Nat.le_of_ble_eq_true rfl) (Nat.le_of_ble_eq_true rfl) ?_
    first | exact rfl | exact ⟨rfl, rfl⟩
  · refine v_aload_n C dX0_fetchPlace_48 rfl ?_
    refine v_iload_n C dX0_fetchPlace_49 rfl ?_
    refine v_iconst (v := nI 2) C dX0_fetchPlace_50 (by decide) ?_
    refine v_callVv C (c_X0_pay hl (n := n) hF hFE (by omega) hp) ym_X0_pay ml_X0_79 emb_id_eS rfl rfl rfl rfl rfl dX0_fetchPlace_51 (Nat.le_of_ble_eq_true rfl) (Nat.le_of_ble_eq_true rfl) (Nat.le_of_ble_eq_true rfl) (Nat.le_of_ble_eq_true rfl) (fun _ _ hu => hu.elim) (fun r u hu => ?_)
    subst u
    refine V.stt (g2 := (s, payO 2 (fetM p m) p)) (rfl) ?_
    have hfz : IM (fetchM p m) n := by
      by_cases z : m 5 4 = nI 1
      · rw [show fetchM p m = payO 2 (fetM p m) p from if_pos z]
        exact (payO_Pd hp).im hF
      · rw [show fetchM p m = fetM p m from if_neg z]
        exact hF
    first
    | (have hz : fetchM p m = payO 2 (fetM p m) p := if_pos c45
       rw [← hz])
    | (have hz : fetchM p m = fetM p m := if_neg c45
       rw [← hz])
    have hG := hfz
    refine v_aload_n C dX0_fetchPlace_54 rfl ?_
    refine v_getr C fl_X0_12 or_eS_0_0 dX0_fetchPlace_55 ?_
    refine v_iload_n C dX0_fetchPlace_58 rfl ?_
    refine v_callVi C (c_X2_valueOf hl (n := n) hG hp) ym_X2_valueOf ml_X0_44 emb_e_m rfl rfl rfl rfl rfl dX0_fetchPlace_59 (Nat.le_of_ble_eq_true rfl) (Nat.le_of_ble_eq_true rfl) (Nat.le_of_ble_eq_true rfl) (Nat.le_of_ble_eq_true rfl) (fun _ _ hu => hu.elim) (fun r u hu => ?_)
    obtain ⟨rfl, hu⟩ := hu
    subst u
    refine v_iret C F (by first | rfl | exact bI_nar _) dX0_fetchPlace_62 (Nat.le_of_ble_eq_true rfl) (Nat.le_of_ble_eq_true rfl) ?_
    first | exact rfl | exact ⟨rfl, rfl⟩
set_option maxHeartbeats 4000000 in
theorem c_X0_makeCopy {l : Launch} (hl : l.stackTraces = false) {κ : Kp} {h : Nat → Nat} {s : G} {m : Mg} {n f t ln lim : Nat} (hI : IM m n) (hE : EvOK m) (hL : m 5 1 = nI lim) (hl96 : lim ≤ 96) (h1 : 1 ≤ ln) (hf : f + ln ≤ n) (ht : t + ln ≤ n) : Ct SS MM l κ yX0_makeCopy cX0_makeCopy 6 (some FieldType.int) 3 0 0 [.ref (h 0), .int (nI f), .int (nI t), .int (nI ln)] (eS κ h) (s, m) ri (fun r u => r = m 6 0 ∧ ∃ s2, u = (s2, copyM n f t ln m)) (fun _ _ => False) := by
  refine Ct.of (own := RX0) (by decide) rfl hl (by intro v hv; simp only [List.mem_cons, List.not_mem_nil, or_false] at hv; first | (rcases hv with rfl | rfl | rfl | rfl | rfl | rfl <;> rfl) | (rcases hv with rfl | rfl | rfl | rfl | rfl <;> rfl) | (rcases hv with rfl | rfl | rfl | rfl <;> rfl) | (rcases hv with rfl | rfl | rfl <;> rfl) | (rcases hv with rfl | rfl <;> rfl) | (subst hv; rfl) | exact hv.elim) (Nat.le_of_ble_eq_true rfl) (fun X hxl hxk C F N => ?_)
  subst hxl hxk
  show V X (eS (xK X) h) 0 [some (.ref (h 0)), some (.int (nI f)), some (.int (nI t)), some (.int (nI ln)), none, none] [] (s, m) 0 0
  have h96 := hI.2.1
  obtain ⟨hcI, hcE, hcc⟩ := cop0_ok (to_ := t) (len := ln) hI hE
  have hd := depM_ok (T := (rowT t (t + ln - 1))) hcI
  have hyI : IM (copD n t ln m) n := hd.1.im hcI
  have hyE : EvOK (copD n t ln m) := hd.1.1.2.2.2.2 hcE
  have hdr := drpM_ok (T := (rowT t (t + ln - 1))) (n := n) (m := copD n t ln m)
  have hzI := hdr.1.im hyI
  have hzE := hdr.1.1.2.2.2.2 hyE
  have hzS := sep_dep (T := (rowT t (t + ln - 1))) hcI
  have hz5 : drpM (rowT t (t + ln - 1)) n (copD n t ln m) 5 = m 5 := by rw [hdr.1.1.2.2.1]; exact hd.1.1.2.2.1.trans (hcc 5 (by decide) (by decide) (by decide))
  refine v_aload_n C dX0_makeCopy_0 rfl ?_
  refine v_getr C fl_X0_12 or_eS_0_0 dX0_makeCopy_1 ?_
  refine v_getr C fl_X0_29 or_eS_4_5 dX0_makeCopy_4 ?_
  refine v_iconst (v := nI 0) C dX0_makeCopy_7 (by decide) ?_
  refine v_ialdQ (x := m 6 0) C ar_eS_10 (by decide) _ (rfl) ?_ rfl dX0_makeCopy_8 ?_
  · omega
  refine v_istore C (lo2 := [some _, some _, some _, some _, some _, none]) dX0_makeCopy_9 rfl (Nat.le_of_ble_eq_true rfl) rfl ?_
  refine v_aload_n C dX0_makeCopy_11 rfl ?_
  refine v_getr C fl_X0_12 or_eS_0_0 dX0_makeCopy_12 ?_
  refine v_getr C fl_X0_29 or_eS_4_5 dX0_makeCopy_15 ?_
  refine v_iconst (v := nI 0) C dX0_makeCopy_18 (by decide) ?_
  refine v_dup2 C dX0_makeCopy_19 rfl rfl ?_
  refine v_ialdQ (x := m 6 0) C ar_eS_10 (by decide) _ (rfl) ?_ rfl dX0_makeCopy_20 ?_
  · omega
  refine v_iconst (v := nI 1) C dX0_makeCopy_21 (by decide) ?_
  first | refine v_iaddN C dX0_makeCopy_22 ?_ | refine v_iadd C dX0_makeCopy_22 ?_
  refine v_iast C ar_eS_10 (by decide) _ ?_ rfl dX0_makeCopy_23 ?_
  · omega
  refine V.stt (g2 := (s, accM m 0 (nI 1))) (rfl) ?_
  refine v_aload_n C dX0_makeCopy_24 rfl ?_
  refine v_getr C fl_X0_12 or_eS_0_0 dX0_makeCopy_25 ?_
  refine v_getr C fl_X0_29 or_eS_4_5 dX0_makeCopy_28 ?_
  refine v_iconst (v := nI 1) C dX0_makeCopy_31 (by decide) ?_
  refine v_dup2 C dX0_makeCopy_32 rfl rfl ?_
  refine v_ialdQ (x := accM m 0 (nI 1) 6 1) C ar_eS_10 (by decide) _ (rfl) ?_ rfl dX0_makeCopy_33 ?_
  · omega
  refine v_iload_n C dX0_makeCopy_34 rfl ?_
  first | refine v_iaddN C dX0_makeCopy_35 ?_ | refine v_iadd C dX0_makeCopy_35 ?_
  refine v_iast C ar_eS_10 (by decide) _ ?_ rfl dX0_makeCopy_36 ?_
  · omega
  refine V.stt (g2 := (s, accM (accM m 0 (nI 1)) 1 (nI ln))) (rfl) ?_
  refine v_aload_n C dX0_makeCopy_37 rfl ?_
  refine v_getr C fl_X0_12 or_eS_0_0 dX0_makeCopy_38 ?_
  refine v_iconst (v := nI 0) C dX0_makeCopy_41 (by decide) ?_
  refine v_iload_n C dX0_makeCopy_42 rfl ?_
  refine v_iload_n C dX0_makeCopy_43 rfl ?_
  refine v_callVv C (c_X2_note hl (g := accM (accM m 0 (nI 1)) 1 (nI ln)) (EvOK.of hE rfl)) ym_X2_note ml_X0_32 emb_e_m rfl rfl rfl rfl rfl dX0_makeCopy_44 (Nat.le_of_ble_eq_true rfl) (Nat.le_of_ble_eq_true rfl) (Nat.le_of_ble_eq_true rfl) (Nat.le_of_ble_eq_true rfl) (fun _ _ hu => hu.elim) (fun r u hu => ?_)
  subst u
  refine V.stt (g2 := (s, cop0 t ln m)) (rfl) ?_
  refine v_aload_n C dX0_makeCopy_47 rfl ?_
  refine v_iload_n C dX0_makeCopy_48 rfl ?_
  refine v_iload_n C dX0_makeCopy_49 rfl ?_
  refine v_iload_n C dX0_makeCopy_50 rfl ?_
  first | refine v_iaddN C dX0_makeCopy_51 ?_ | refine v_iadd C dX0_makeCopy_51 ?_
  refine v_iconst (v := nI 1) C dX0_makeCopy_52 (by decide) ?_
  first | refine v_isubN C dX0_makeCopy_53 (by omega) ?_ | refine v_isub C dX0_makeCopy_53 ?_
  refine v_callVv C (c_X0_touchRow hl (a := t) (b := t + ln - 1) (by omega) (by omega)) ym_X0_touchRow ml_X0_36 emb_id_eS rfl rfl rfl rfl rfl dX0_makeCopy_54 (Nat.le_of_ble_eq_true rfl) (Nat.le_of_ble_eq_true rfl) (Nat.le_of_ble_eq_true rfl) (Nat.le_of_ble_eq_true rfl) (fun _ _ hu => hu.elim) (fun r u hu => ?_)
  obtain ⟨s1, hu, hT⟩ := hu
  subst u
  refine v_aload_n C dX0_makeCopy_57 rfl ?_
  refine v_callVi C (c_X0_payDependents hl (n := n) (T := (rowT t (t + ln - 1))) hcI hcE hT) ym_X0_payDependents ml_X0_40 emb_id_eS rfl rfl rfl rfl rfl dX0_makeCopy_58 (Nat.le_of_ble_eq_true rfl) (Nat.le_of_ble_eq_true rfl) (Nat.le_of_ble_eq_true rfl) (Nat.le_of_ble_eq_true rfl) (fun _ _ hu => hu.elim) (fun r u hu => ?_)
  obtain ⟨rfl, hu⟩ := hu
  subst u
  refine V.stt (g2 := (s1, copD n t ln m)) (rfl) ?_
  refine v_pop C dX0_makeCopy_61 rfl ?_
  refine v_iconst (v := nI 0) C dX0_makeCopy_62 (by decide) ?_
  refine v_istore C (lo2 := [some _, some _, some _, some _, some _, some _]) dX0_makeCopy_63 rfl (Nat.le_of_ble_eq_true rfl) rfl ?_
  have L65 : ∀ (x : Nat × G), (fun x => x.1 ≤ ln ∧ (∀ p, p < 96 → x.2 1 p = bI ((rowT t (t + ln - 1)) p)) ∧ ∀ q, q < x.1 → x.2 2 q = valM (copD n t ln m) (f + q)) x → (fun x : Nat × G => V X (eS (xK X) h) 65 [some (.ref (h 0)), some (.int (nI f)), some (.int (nI t)), some (.int (nI ln)), some (.int (m 6 0)), some (.int (nI x.1))] [] (x.2, copD n t ln m) 0 0) x := by
    refine v_ind (fun x : Nat × G => ln - x.1) ?_
    rintro ⟨i, w⟩ ih65 hI65
    try dsimp only at hI65 ⊢
    obtain ⟨i1, k1, k2⟩ := hI65
    refine v_iload C dX0_makeCopy_65 rfl ?_
    refine v_iload_n C dX0_makeCopy_67 rfl ?_
    first | refine v_icmp_geN C 95 dX0_makeCopy_68 (by decide) (by omega) (by omega) (fun c68 => ?_) (fun c68 => ?_) | refine v_icmp_ge C 95 dX0_makeCopy_68 (by decide) (fun c68 => ?_) (fun c68 => ?_)
    · refine v_aload_n C dX0_makeCopy_95 rfl ?_
      refine v_callVv C (c_X0_dropTouched hl (n := n) (T := (rowT t (t + ln - 1))) hyI.1 h96 hyE k1) ym_X0_dropTouched ml_X0_48 emb_id_eS rfl rfl rfl rfl rfl dX0_makeCopy_96 (Nat.le_of_ble_eq_true rfl) (Nat.le_of_ble_eq_true rfl) (Nat.le_of_ble_eq_true rfl) (Nat.le_of_ble_eq_true rfl) (fun _ _ hu => hu.elim) (fun r u hu => ?_)
      subst u
      refine v_iconst (v := nI 0) C dX0_makeCopy_99 (by decide) ?_
      refine v_istore C (lo2 := [some _, some _, some _, some _, some _, some _]) dX0_makeCopy_100 rfl (Nat.le_of_ble_eq_true rfl) rfl ?_
      have e65 : i = ln := by omega
      have L102 : ∀ (x : Nat × Mg), (fun x => x.1 ≤ ln ∧ IM x.2 n ∧ Sep (rowT t (t + ln - 1)) n x.2 ∧ EvOK x.2 ∧ x.2 5 = m 5 ∧ forG (copS (rowT t (t + ln - 1)) f t (m 6 0) (fun i => valM (copD n t ln m) (f + i))) x.1 (ln - x.1) x.2 = copL n f t ln m) x → (fun x : Nat × Mg => V X (eS (xK X) h) 102 [some (.ref (h 0)), some (.int (nI f)), some (.int (nI t)), some (.int (nI ln)), some (.int (m 6 0)), some (.int (nI x.1))] [] (w, x.2) 0 0) x := by
        refine v_ind (fun x : Nat × Mg => ln - x.1) ?_
        rintro ⟨i, y⟩ ih102 hI102
        try dsimp only at hI102 ⊢
        obtain ⟨i1, iI, iS, iE, i5, i6⟩ := hI102
        refine v_iload C dX0_makeCopy_102 rfl ?_
        refine v_iload_n C dX0_makeCopy_104 rfl ?_
        first | refine v_icmp_geN C 189 dX0_makeCopy_105 (by decide) (by omega) (by omega) (fun c105 => ?_) (fun c105 => ?_) | refine v_icmp_ge C 189 dX0_makeCopy_105 (by decide) (fun c105 => ?_) (fun c105 => ?_)
        · rw [forG_0 (by omega)] at i6
          refine v_aload_n C dX0_makeCopy_189 rfl ?_
          refine v_callVv C (c_X0_keepLimit hl (n := n) (lim := lim) iI iE (by rw [i5]; exact hL) hl96) ym_X0_keepLimit ml_X0_61 emb_id_eS rfl rfl rfl rfl rfl dX0_makeCopy_190 (Nat.le_of_ble_eq_true rfl) (Nat.le_of_ble_eq_true rfl) (Nat.le_of_ble_eq_true rfl) (Nat.le_of_ble_eq_true rfl) (fun _ _ hu => hu.elim) (fun r u hu => ?_)
          obtain ⟨s2, hu⟩ := hu
          subst u
          refine v_iload C dX0_makeCopy_193 rfl ?_
          refine v_iret C F (by first | rfl | exact bI_nar _) dX0_makeCopy_195 (Nat.le_of_ble_eq_true rfl) (Nat.le_of_ble_eq_true rfl) ?_
          exact ⟨rfl, _, by unfold copyM; rw [← i6]⟩
        · refine v_aload_n C dX0_makeCopy_108 rfl ?_
          refine v_getr C fl_X0_18 or_eS_0_1 dX0_makeCopy_109 ?_
          refine v_iload_n C dX0_makeCopy_112 rfl ?_
          refine v_iload C dX0_makeCopy_113 rfl ?_
          first | refine v_iaddN C dX0_makeCopy_115 ?_ | refine v_iadd C dX0_makeCopy_115 ?_
          refine v_zaldQ (x := bI (rowT t (t + ln - 1) (f + i))) C ar_eS_1 (by decide) _ (k1 _ (by omega)) ?_ rfl dX0_makeCopy_116 ?_
          · omega
          refine v_if_eqB C 169 dX0_makeCopy_117 (by decide) (fun c117 => ?_) (fun c117 => ?_)
          · refine v_aload_n C dX0_makeCopy_169 rfl ?_
            refine v_iload_n C dX0_makeCopy_170 rfl ?_
            refine v_iload C dX0_makeCopy_171 rfl ?_
            first | refine v_iaddN C dX0_makeCopy_173 ?_ | refine v_iadd C dX0_makeCopy_173 ?_
            refine v_iload_n C dX0_makeCopy_174 rfl ?_
            refine v_iload C dX0_makeCopy_175 rfl ?_
            first | refine v_iaddN C dX0_makeCopy_177 ?_ | refine v_iadd C dX0_makeCopy_177 ?_
            refine v_iload C dX0_makeCopy_178 rfl ?_
            refine v_callVv C (c_X0_owe hl (n := n) iI (by omega) (by omega)) ym_X0_owe ml_X0_58 emb_id_eS rfl rfl rfl rfl rfl dX0_makeCopy_180 (Nat.le_of_ble_eq_true rfl) (Nat.le_of_ble_eq_true rfl) (Nat.le_of_ble_eq_true rfl) (Nat.le_of_ble_eq_true rfl) (fun _ _ hu => hu.elim) (fun r u hu => ?_)
            subst u
            refine V.stt (g2 := (w, copS (rowT t (t + ln - 1)) f t (m 6 0) (fun i => valM (copD n t ln m) (f + i)) i y)) (by unfold copS; rw [if_neg (by rw [c117]; exact Bool.false_ne_true)]) ?_
            first | refine v_iinc1 C (lo2 := [some _, some _, some _, some _, some _, some _]) dX0_makeCopy_183 rfl rfl rfl ?_ | refine v_iinc C (lo2 := [some _, some _, some _, some _, some _, some _]) dX0_makeCopy_183 rfl rfl rfl rfl ?_
            refine v_goto C 102 dX0_makeCopy_186 (by decide) ?_
            have hib : i < ln := by omega
            rw [forG_s hib] at i6
            have ho := copS_ok (num := m 6 0) (c := (fun i => valM (copD n t ln m) (f + i))) iI iS iE (show f + i < n by omega) (show t + i < n by omega) (by simp [rowT]; omega)
            exact ih102 (i + 1, copS (rowT t (t + ln - 1)) f t (m 6 0) (fun i => valM (copD n t ln m) (f + i)) i y) (by show ln - (i + 1) < ln - i; omega) ⟨by show i + 1 ≤ ln; omega, ho.1, ho.2.1, ho.2.2.1, ho.2.2.2.2.trans i5, i6⟩
          · refine v_aload_n C dX0_makeCopy_120 rfl ?_
            refine v_getr C fl_X0_12 or_eS_0_0 dX0_makeCopy_121 ?_
            refine v_getr C fl_X0_51 or_eS_4_0 dX0_makeCopy_124 ?_
            refine v_iload_n C dX0_makeCopy_127 rfl ?_
            refine v_iload C dX0_makeCopy_128 rfl ?_
            first | refine v_iaddN C dX0_makeCopy_130 ?_ | refine v_iadd C dX0_makeCopy_130 ?_
            refine v_aload_n C dX0_makeCopy_131 rfl ?_
            refine v_getr C fl_X0_22 or_eS_0_2 dX0_makeCopy_132 ?_
            refine v_iload C dX0_makeCopy_135 rfl ?_
            refine v_ialdQ (x := valM (copD n t ln m) (f + i)) C ar_eS_2 (by decide) _ (k2 i (by omega)) ?_ rfl dX0_makeCopy_137 ?_
            · omega
            refine v_iast C ar_eS_5 (by decide) _ ?_ rfl dX0_makeCopy_138 ?_
            · omega
            refine V.stt (g2 := (w, byteM y (t + i) (valM (copD n t ln m) (f + i)))) (rfl) ?_
            refine v_aload_n C dX0_makeCopy_139 rfl ?_
            refine v_getr C fl_X0_12 or_eS_0_0 dX0_makeCopy_140 ?_
            refine v_iconst (v := nI 3) C dX0_makeCopy_143 (by decide) ?_
            refine v_iload_n C dX0_makeCopy_144 rfl ?_
            refine v_iload C dX0_makeCopy_145 rfl ?_
            first | refine v_iaddN C dX0_makeCopy_147 ?_ | refine v_iadd C dX0_makeCopy_147 ?_
            refine v_aload_n C dX0_makeCopy_148 rfl ?_
            refine v_getr C fl_X0_22 or_eS_0_2 dX0_makeCopy_149 ?_
            refine v_iload C dX0_makeCopy_152 rfl ?_
            refine v_ialdQ (x := valM (copD n t ln m) (f + i)) C ar_eS_2 (by decide) _ (k2 i (by omega)) ?_ rfl dX0_makeCopy_154 ?_
            · omega
            refine v_callVv C (c_X2_note hl (g := byteM y (t + i) (valM (copD n t ln m) (f + i))) (EvOK.of iE rfl)) ym_X2_note ml_X0_32 emb_e_m rfl rfl rfl rfl rfl dX0_makeCopy_155 (Nat.le_of_ble_eq_true rfl) (Nat.le_of_ble_eq_true rfl) (Nat.le_of_ble_eq_true rfl) (Nat.le_of_ble_eq_true rfl) (fun _ _ hu => hu.elim) (fun r u hu => ?_)
            subst u
            refine V.stt (g2 := (w, noteM (byteM y (t + i) (valM (copD n t ln m) (f + i))) (nI 3) (nI (t + i)) (valM (copD n t ln m) (f + i)))) (rfl) ?_
            refine v_aload_n C dX0_makeCopy_158 rfl ?_
            refine v_getr C fl_X0_12 or_eS_0_0 dX0_makeCopy_159 ?_
            refine v_iconst (v := nI 3) C dX0_makeCopy_162 (by decide) ?_
            refine v_callVv C (c_X2_countPayment hl (by omega)) ym_X2_countPayment ml_X0_54 emb_e_m rfl rfl rfl rfl rfl dX0_makeCopy_163 (Nat.le_of_ble_eq_true rfl) (Nat.le_of_ble_eq_true rfl) (Nat.le_of_ble_eq_true rfl) (Nat.le_of_ble_eq_true rfl) (fun _ _ hu => hu.elim) (fun r u hu => ?_)
            subst u
            refine V.stt (g2 := (w, copS (rowT t (t + ln - 1)) f t (m 6 0) (fun i => valM (copD n t ln m) (f + i)) i y)) (by unfold copS; rw [if_pos c117]) ?_
            refine v_goto C 183 dX0_makeCopy_166 (by decide) ?_
            first | refine v_iinc1 C (lo2 := [some _, some _, some _, some _, some _, some _]) dX0_makeCopy_183 rfl rfl rfl ?_ | refine v_iinc C (lo2 := [some _, some _, some _, some _, some _, some _]) dX0_makeCopy_183 rfl rfl rfl rfl ?_
            refine v_goto C 102 dX0_makeCopy_186 (by decide) ?_
            have hib : i < ln := by omega
            rw [forG_s hib] at i6
            have ho := copS_ok (num := m 6 0) (c := (fun i => valM (copD n t ln m) (f + i))) iI iS iE (show f + i < n by omega) (show t + i < n by omega) (by simp [rowT]; omega)
            exact ih102 (i + 1, copS (rowT t (t + ln - 1)) f t (m 6 0) (fun i => valM (copD n t ln m) (f + i)) i y) (by show ln - (i + 1) < ln - i; omega) ⟨by show i + 1 ≤ ln; omega, ho.1, ho.2.1, ho.2.2.1, ho.2.2.2.2.trans i5, i6⟩
      exact L102 (0, drpM (rowT t (t + ln - 1)) n (copD n t ln m)) ⟨Nat.zero_le _, hzI, hzS, hzE, hz5, rfl⟩
    · refine v_aload_n C dX0_makeCopy_71 rfl ?_
      refine v_getr C fl_X0_22 or_eS_0_2 dX0_makeCopy_72 ?_
      refine v_iload C dX0_makeCopy_75 rfl ?_
      refine v_aload_n C dX0_makeCopy_77 rfl ?_
      refine v_getr C fl_X0_12 or_eS_0_0 dX0_makeCopy_78 ?_
      refine v_iload_n C dX0_makeCopy_81 rfl ?_
      refine v_iload C dX0_makeCopy_82 rfl ?_
      first | refine v_iaddN C dX0_makeCopy_84 ?_ | refine v_iadd C dX0_makeCopy_84 ?_
      refine v_callVi C (c_X2_valueOf hl (n := n) hyI (by omega)) ym_X2_valueOf ml_X0_44 emb_e_m rfl rfl rfl rfl rfl dX0_makeCopy_85 (Nat.le_of_ble_eq_true rfl) (Nat.le_of_ble_eq_true rfl) (Nat.le_of_ble_eq_true rfl) (Nat.le_of_ble_eq_true rfl) (fun _ _ hu => hu.elim) (fun r u hu => ?_)
      obtain ⟨rfl, hu⟩ := hu
      subst u
      refine v_iast C ar_eS_2 (by decide) _ ?_ rfl dX0_makeCopy_88 ?_
      · omega
      refine V.stt (g2 := (sG w 2 (upd (w 2) i (valM (copD n t ln m) (f + i))), copD n t ln m)) (rfl) ?_
      first | refine v_iinc1 C (lo2 := [some _, some _, some _, some _, some _, some _]) dX0_makeCopy_89 rfl rfl rfl ?_ | refine v_iinc C (lo2 := [some _, some _, some _, some _, some _, some _]) dX0_makeCopy_89 rfl rfl rfl rfl ?_
      refine v_goto C 65 dX0_makeCopy_92 (by decide) ?_
      exact ih65 (i + 1, sG w 2 (upd (w 2) i (valM (copD n t ln m) (f + i)))) (by show ln - (i + 1) < ln - i; omega) ⟨by show i + 1 ≤ ln; omega, k1, fun q hq => by
        show upd (w 2) i (valM (copD n t ln m) (f + i)) q = _
        by_cases z : q = i
        · subst z
          exact upd_s
        · rw [upd_o z]
          exact k2 q (by have hq : q < i + 1 := hq; omega)⟩
  exact L65 (0, s1) ⟨Nat.zero_le _, hT, fun q hq => absurd hq (Nat.not_lt_zero q)⟩
