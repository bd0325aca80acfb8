set_option maxHeartbeats 16000000 in
theorem c_X3_readHeader {l : Launch} (hl : l.stackTraces = false) {κ : Kp} {h : Nat → Nat} {r s : G} {m : Mg} {len : Nat} {b : Nat → Int32} {fl : Int32} (hR : RA b len st0 r) (hK : KC (0, 0, 0, 0) r) (hf : r 0 2 = fl) : Ct SS MM l κ yX3_readHeader cX3_readHeader 2 none 6 0 0 [.ref (h 0)] (rS κ h) (r, s, m) rv (fun _ u => RXP b len (advS b len (hd4 b len).1, hdM b len m, (0, 0, 0, 0)) fl u) (fun _ _ => False) := by
  refine Ct.of (own := RX3) (by decide) rfl hl (by intro v hv; simp only [List.mem_cons, List.not_mem_nil, or_false] at hv; first | (rcases hv with rfl | rfl | rfl | rfl | rfl | rfl <;> rfl) | (rcases hv with rfl | rfl | rfl | rfl | rfl <;> rfl) | (rcases hv with rfl | rfl | rfl | rfl <;> rfl) | (rcases hv with rfl | rfl | rfl <;> rfl) | (rcases hv with rfl | rfl <;> rfl) | (subst hv; rfl) | exact hv.elim) (Nat.le_of_ble_eq_true rfl) (fun X hxl hxk C F N => ?_)
  subst hxl hxk
  show V X (rS (xK X) h) 0 [some (.ref (h 0)), none] [] (r, s, m) 0 0
  refine v_aload_n C dX3_readHeader_0 rfl ?_
  refine v_getr C fl_X3_12 or_rS_0_0 dX3_readHeader_1 ?_
  refine v_getr C fl_X3_107 or_rS_1_0 dX3_readHeader_4 ?_
  refine v_astore_n C (lo2 := [some _, some _]) dX3_readHeader_7 rfl (Nat.le_of_ble_eq_true rfl) rfl ?_
  refine v_aload_n C dX3_readHeader_8 rfl ?_
  refine v_aload_n C dX3_readHeader_9 rfl ?_
  refine v_ldcS C (i := 0) rfl rfl dX3_readHeader_10 ?_
  refine v_iconst (v := nI 1) C dX3_readHeader_12 (by decide) ?_
  refine v_bipush (v := nI 96) C dX3_readHeader_13 (by decide) ?_
  refine v_callVi C (c_X3_readNamedN hl (i := 0) (by decide) hR (by omega) (by omega)) ym_X3_readNamed ml_X3_117 emb_id_rS rfl rfl rfl rfl rfl dX3_readHeader_15 (Nat.le_of_ble_eq_true rfl) (Nat.le_of_ble_eq_true rfl) (Nat.le_of_ble_eq_true rfl) (Nat.le_of_ble_eq_true rfl) (fun _ _ hu => hu.elim) (fun r u hu => ?_)
  rcases u with ⟨r1, s1, m1⟩
  obtain ⟨rfl, hy, hR1, hF1⟩ := hu
  obtain ⟨he1, he2⟩ := Prod.mk.inj (show (s1, m1) = _ from hy)
  subst s1 m1
  have hR1 : RS b len (hd1 b len).1 r1 := hR1
  refine v_puti C fl_X3_121 fw_X2_7 oi_rS_5_7 ⟨rfl, rfl⟩ dX3_readHeader_18 ?_
  refine V.stt (g2 := (r1, s, szM m (nI (hd1 b len).2))) (rfl) ?_
  refine v_aload_n C dX3_readHeader_21 rfl ?_
  refine v_getr C fl_X3_124 or_rS_5_4 dX3_readHeader_22 ?_
  refine v_iconst (v := nI 0) C dX3_readHeader_25 (by decide) ?_
  refine v_aload_n C dX3_readHeader_26 rfl ?_
  refine v_ldcS C (i := 1) rfl rfl dX3_readHeader_27 ?_
  refine v_iconst (v := nI 1) C dX3_readHeader_29 (by decide) ?_
  refine v_bipush (v := nI 20) C dX3_readHeader_30 (by decide) ?_
  refine v_callVi C (c_X3_readNamedN hl (i := 1) (by decide) hR1.ra (by omega) (by omega)) ym_X3_readNamed ml_X3_117 emb_id_rS rfl rfl rfl rfl rfl dX3_readHeader_32 (Nat.le_of_ble_eq_true rfl) (Nat.le_of_ble_eq_true rfl) (Nat.le_of_ble_eq_true rfl) (Nat.le_of_ble_eq_true rfl) (fun _ _ hu => hu.elim) (fun r u hu => ?_)
  rcases u with ⟨r2, s2, m2⟩
  obtain ⟨rfl, hy, hR2, hF2⟩ := hu
  obtain ⟨he1, he2⟩ := Prod.mk.inj (show (s2, m2) = _ from hy)
  subst s2 m2
  have hR2 : RS b len (hd2 b len).1 r2 := hR2
  refine v_iast C ar_rS_10 (by decide) _ ?_ rfl dX3_readHeader_35 ?_
  · omega
  refine V.stt (g2 := (r2, s, setM (szM m (nI (hd1 b len).2)) 0 (nI (hd2 b len).2))) (rfl) ?_
  refine v_aload_n C dX3_readHeader_36 rfl ?_
  refine v_getr C fl_X3_124 or_rS_5_4 dX3_readHeader_37 ?_
  refine v_iconst (v := nI 1) C dX3_readHeader_40 (by decide) ?_
  refine v_aload_n C dX3_readHeader_41 rfl ?_
  refine v_ldcS C (i := 2) rfl rfl dX3_readHeader_42 ?_
  refine v_iconst (v := nI 0) C dX3_readHeader_44 (by decide) ?_
  refine v_bipush (v := nI 96) C dX3_readHeader_45 (by decide) ?_
  refine v_callVi C (c_X3_readNamedN hl (i := 2) (by decide) hR2.ra (by omega) (by omega)) ym_X3_readNamed ml_X3_117 emb_id_rS rfl rfl rfl rfl rfl dX3_readHeader_47 (Nat.le_of_ble_eq_true rfl) (Nat.le_of_ble_eq_true rfl) (Nat.le_of_ble_eq_true rfl) (Nat.le_of_ble_eq_true rfl) (fun _ _ hu => hu.elim) (fun r u hu => ?_)
  rcases u with ⟨r3, s3, m3⟩
  obtain ⟨rfl, hy, hR3, hF3⟩ := hu
  obtain ⟨he1, he2⟩ := Prod.mk.inj (show (s3, m3) = _ from hy)
  subst s3 m3
  have hR3 : RS b len (hd3 b len).1 r3 := hR3
  refine v_iast C ar_rS_10 (by decide) _ ?_ rfl dX3_readHeader_50 ?_
  · omega
  refine V.stt (g2 := (r3, s, setM (setM (szM m (nI (hd1 b len).2)) 0 (nI (hd2 b len).2)) 1 (nI (hd3 b len).2))) (rfl) ?_
  refine v_aload_n C dX3_readHeader_51 rfl ?_
  refine v_getr C fl_X3_124 or_rS_5_4 dX3_readHeader_52 ?_
  refine v_iconst (v := nI 2) C dX3_readHeader_55 (by decide) ?_
  refine v_aload_n C dX3_readHeader_56 rfl ?_
  refine v_ldcS C (i := 3) rfl rfl dX3_readHeader_57 ?_
  refine v_iconst (v := nI 0) C dX3_readHeader_59 (by decide) ?_
  refine v_iconst (v := nI 3) C dX3_readHeader_60 (by decide) ?_
  refine v_callVi C (c_X3_readNamedN hl (i := 3) (by decide) hR3.ra (by omega) (by omega)) ym_X3_readNamed ml_X3_117 emb_id_rS rfl rfl rfl rfl rfl dX3_readHeader_61 (Nat.le_of_ble_eq_true rfl) (Nat.le_of_ble_eq_true rfl) (Nat.le_of_ble_eq_true rfl) (Nat.le_of_ble_eq_true rfl) (fun _ _ hu => hu.elim) (fun r u hu => ?_)
  rcases u with ⟨r4, s4, m4⟩
  obtain ⟨rfl, hy, hR4, hF4⟩ := hu
  obtain ⟨he1, he2⟩ := Prod.mk.inj (show (s4, m4) = _ from hy)
  subst s4 m4
  have hR4 : RS b len (hd4 b len).1 r4 := hR4
  refine v_iast C ar_rS_10 (by decide) _ ?_ rfl dX3_readHeader_64 ?_
  · omega
  refine V.stt (g2 := (r4, s, hdM b len m)) (rfl) ?_
  refine v_aload_n C dX3_readHeader_65 rfl ?_
  refine v_callVv C (c_X3_advance hl hR4.ra) ym_X3_advance ml_X3_49 emb_id_rS rfl rfl rfl rfl rfl dX3_readHeader_66 (Nat.le_of_ble_eq_true rfl) (Nat.le_of_ble_eq_true rfl) (Nat.le_of_ble_eq_true rfl) (Nat.le_of_ble_eq_true rfl) (fun _ _ hu => hu.elim) (fun r u hu => ?_)
  rcases u with ⟨r5, s5, m5⟩
  obtain ⟨hy, hR5, hF5⟩ := hu
  obtain ⟨he1, he2⟩ := Prod.mk.inj (show (s5, m5) = _ from hy)
  subst s5 m5
  refine v_vret C F dX3_readHeader_69 (Nat.le_of_ble_eq_true rfl) (Nat.le_of_ble_eq_true rfl) ?_
  have hFF := (((hF1.tr hF2).tr hF3).tr hF4).tr hF5
  exact RXP_mk hR5 (hK.fb hFF) (hFF.2.1.trans hf) rfl
