set_option maxHeartbeats 4000000 in
theorem c_X0_touchRow {l : Launch} (hl : l.stackTraces = false) {κ : Kp} {h : Nat → Nat} {s : G} {m : Mg} {a b : Nat} (ha : a < 2 ^ 31) (hb : b < 2 ^ 31) : Ct SS MM l κ yX0_touchRow cX0_touchRow 4 none 0 0 0 [.ref (h 0), .int (nI a), .int (nI b)] (eS κ h) (s, m) rv (fun _ u => ∃ s2, u = (s2, m) ∧ ∀ p, p < 96 → s2 1 p = bI (rowT a b p)) (fun _ _ => False) := by
  refine Ct.of (own := RX0) (by decide) rfl hl (by intro v hv; simp only [List.mem_cons, List.not_mem_nil, or_false] at hv; first | (rcases hv with rfl | rfl | rfl | rfl | rfl | rfl <;> rfl) | (rcases hv with rfl | rfl | rfl | rfl | rfl <;> rfl) | (rcases hv with rfl | rfl | rfl | rfl <;> rfl) | (rcases hv with rfl | rfl | rfl <;> rfl) | (rcases hv with rfl | rfl <;> rfl) | (subst hv; rfl) | exact hv.elim) (Nat.le_of_ble_eq_true rfl) (fun X hxl hxk C F N => ?_)
  subst hxl hxk
  show V X (eS (xK X) h) 0 [some (.ref (h 0)), some (.int (nI a)), some (.int (nI b)), none] [] (s, m) 0 0
  refine v_iconst (v := nI 0) C dX0_touchRow_0 (by decide) ?_
  refine v_istore_n C (lo2 := [some _, some _, some _, some _]) dX0_touchRow_1 rfl (Nat.le_of_ble_eq_true rfl) rfl ?_
  have L2 : ∀ (t : Nat), (fun t => t ≤ 96) t → (fun t : Nat => V X (eS (xK X) h) 2 [some (.ref (h 0)), some (.int (nI a)), some (.int (nI b)), some (.int (nI t))] [] (sG s 1 (mix t (fun p => bI (rowT a b p)) (s 1)), m) 0 0) t := by
    refine v_ind (fun t : Nat => 96 - t) ?_
    rintro t ih2 hI2
    try dsimp only at hI2 ⊢
    refine v_iload_n C dX0_touchRow_2 rfl ?_
    refine v_bipush (v := nI 96) C dX0_touchRow_3 (by decide) ?_
    first | refine v_icmp_geN C 35 dX0_touchRow_5 (by decide) (by omega) (by omega) (fun c5 => ?_) (fun c5 => ?_) | refine v_icmp_ge C 35 dX0_touchRow_5 (by decide) (fun c5 => ?_) (fun c5 => ?_)
    · refine v_vret C F dX0_touchRow_35 (Nat.le_of_ble_eq_true rfl) (Nat.le_of_ble_eq_true rfl) ?_
      exact ⟨_, rfl, fun p hp => (show mix t (fun p => bI (rowT a b p)) (s 1) p = bI (rowT a b p) from mix_in (by omega))⟩
    · refine v_aload_n C dX0_touchRow_8 rfl ?_
      refine v_getr C fl_X0_18 or_eS_0_1 dX0_touchRow_9 ?_
      refine v_iload_n C dX0_touchRow_12 rfl ?_
      refine v_iload_n C dX0_touchRow_13 rfl ?_
      refine v_iload_n C dX0_touchRow_14 rfl ?_
      first | refine v_icmp_ltN C 27 dX0_touchRow_15 (by decide) (by omega) (by omega) (fun c15 => ?_) (fun c15 => ?_) | refine v_icmp_lt C 27 dX0_touchRow_15 (by decide) (fun c15 => ?_) (fun c15 => ?_)
      · refine v_iconst (v := nI 0) C dX0_touchRow_27 (by decide) ?_
        refine v_zast C ar_eS_1 (by decide) _ ?_ rfl (by first | rfl | exact bI_vp _) dX0_touchRow_28 ?_
        · omega
        refine V.stt (g2 := (sG s 1 (mix (t + 1) (fun p => bI (rowT a b p)) (s 1)), m)) (congrArg (fun z => (z, m)) (st_mix (by first | exact bI_t (by simp [rowT]; omega) | exact bI_f (by simp [rowT]; omega)))) ?_
        first | refine v_iinc1 C (lo2 := [some _, some _, some _, some _]) dX0_touchRow_29 rfl rfl rfl ?_ | refine v_iinc C (lo2 := [some _, some _, some _, some _]) dX0_touchRow_29 rfl rfl rfl rfl ?_
        refine v_goto C 2 dX0_touchRow_32 (by decide) ?_
        exact ih2 (t + 1) (by show 96 - (t + 1) < 96 - t; omega) (by show t + 1 ≤ 96; omega)
      · refine v_iload_n C dX0_touchRow_18 rfl ?_
        refine v_iload_n C dX0_touchRow_19 rfl ?_
        first | refine v_icmp_gtN C 27 dX0_touchRow_20 (by decide) (by omega) (by omega) (fun c20 => ?_) (fun c20 => ?_) | refine v_icmp_gt C 27 dX0_touchRow_20 (by decide) (fun c20 => ?_) (fun c20 => ?_)
        · refine v_iconst (v := nI 0) C dX0_touchRow_27 (by decide) ?_
          refine v_zast C ar_eS_1 (by decide) _ ?_ rfl (by first | rfl | exact bI_vp _) dX0_touchRow_28 ?_
          · omega
          refine V.stt (g2 := (sG s 1 (mix (t + 1) (fun p => bI (rowT a b p)) (s 1)), m)) (congrArg (fun z => (z, m)) (st_mix (by first | exact bI_t (by simp [rowT]; omega) | exact bI_f (by simp [rowT]; omega)))) ?_
          first | refine v_iinc1 C (lo2 := [some _, some _, some _, some _]) dX0_touchRow_29 rfl rfl rfl ?_ | refine v_iinc C (lo2 := [some _, some _, some _, some _]) dX0_touchRow_29 rfl rfl rfl rfl ?_
          refine v_goto C 2 dX0_touchRow_32 (by decide) ?_
          exact ih2 (t + 1) (by show 96 - (t + 1) < 96 - t; omega) (by show t + 1 ≤ 96; omega)
        · refine v_iconst (v := nI 1) C dX0_touchRow_23 (by decide) ?_
          refine v_goto C 28 dX0_touchRow_24 (by decide) ?_
          refine v_zast C ar_eS_1 (by decide) _ ?_ rfl (by first | rfl | exact bI_vp _) dX0_touchRow_28 ?_
          · omega
          refine V.stt (g2 := (sG s 1 (mix (t + 1) (fun p => bI (rowT a b p)) (s 1)), m)) (congrArg (fun z => (z, m)) (st_mix (by first | exact bI_t (by simp [rowT]; omega) | exact bI_f (by simp [rowT]; omega)))) ?_
          first | refine v_iinc1 C (lo2 := [some _, some _, some _, some _]) dX0_touchRow_29 rfl rfl rfl ?_ | refine v_iinc C (lo2 := [some _, some _, some _, some _]) dX0_touchRow_29 rfl rfl rfl rfl ?_
          refine v_goto C 2 dX0_touchRow_32 (by decide) ?_
          exact ih2 (t + 1) (by show 96 - (t + 1) < 96 - t; omega) (by show t + 1 ≤ 96; omega)
  refine V.stt (g2 := (sG s 1 (mix 0 (fun p => bI (rowT a b p)) (s 1)), m)) (by rw [mix_0, sG_id rfl]) ?_
  exact L2 0 (by show 0 ≤ 96; omega)
set_option maxHeartbeats 4000000 in
theorem c_X0_owe {l : Launch} (hl : l.stackTraces = false) {κ : Kp} {h : Nat → Nat} {s : G} {m : Mg} {j q n : Nat} {v : Int32} (hI : IM m n) (hj : j < n) (hq : q < n) : Ct SS MM l κ yX0_owe cX0_owe 5 none 1 0 0 [.ref (h 0), .int (nI j), .int (nI q), .int v] (eS κ h) (s, m) rv (fun _ u => u = (s, oweM m j q v)) (fun _ _ => False) := by
  refine Ct.of (own := RX0) (by decide) rfl hl (by intro v hv; simp only [List.mem_cons, List.not_mem_nil, or_false] at hv; first | (rcases hv with rfl | rfl | rfl | rfl | rfl | rfl <;> rfl) | (rcases hv with rfl | rfl | rfl | rfl | rfl <;> rfl) | (rcases hv with rfl | rfl | rfl | rfl <;> rfl) | (rcases hv with rfl | rfl | rfl <;> rfl) | (rcases hv with rfl | rfl <;> rfl) | (subst hv; rfl) | exact hv.elim) (Nat.le_of_ble_eq_true rfl) (fun X hxl hxk C F N => ?_)
  subst hxl hxk
  show V X (eS (xK X) h) 0 [some (.ref (h 0)), some (.int (nI j)), some (.int (nI q)), some (.int v), none] [] (s, m) 0 0
  have h96 := hI.2.1
  refine v_aload_n C dX0_owe_0 rfl ?_
  refine v_getr C fl_X0_12 or_eS_0_0 dX0_owe_1 ?_
  refine v_getr C fl_X0_64 or_eS_4_4 dX0_owe_4 ?_
  refine v_iconst (v := nI 3) C dX0_owe_7 (by decide) ?_
  refine v_ialdQ (x := m 5 3) C ar_eS_9 (by decide) _ (rfl) ?_ rfl dX0_owe_8 ?_
  · omega
  refine v_iconst (v := nI 1) C dX0_owe_9 (by decide) ?_
  refine v_icmp_ne C 17 dX0_owe_10 (by decide) (fun c10 => ?_) (fun c10 => ?_)
  · refine v_iconst (v := nI 0) C dX0_owe_17 (by decide) ?_
    refine v_istore C (lo2 := [some _, some _, some _, some _, some _]) dX0_owe_18 rfl (Nat.le_of_ble_eq_true rfl) rfl ?_
    refine v_aload_n C dX0_owe_20 rfl ?_
    refine v_getr C fl_X0_12 or_eS_0_0 dX0_owe_21 ?_
    refine v_getr C fl_X0_67 or_eS_4_1 dX0_owe_24 ?_
    refine v_iload_n C dX0_owe_27 rfl ?_
    refine v_iload C dX0_owe_28 rfl ?_
    refine v_if_eq C 44 dX0_owe_30 (by decide) (fun c30 => ?_) (fun c => absurd c (by decide))
    refine v_iload_n C dX0_owe_44 rfl ?_
    refine v_iast C ar_eS_6 (by decide) _ ?_ rfl dX0_owe_45 ?_
    · omega
    refine V.stt (g2 := (s, srcM m j (nI (if m 5 3 = nI 1 then rootM m q else q)))) (by first | exact congrArg (fun z => (s, srcM m j (nI z))) (if_pos c10).symm | exact congrArg (fun z => (s, srcM m j (nI z))) (if_neg c10).symm) ?_
    refine v_aload_n C dX0_owe_46 rfl ?_
    refine v_getr C fl_X0_12 or_eS_0_0 dX0_owe_47 ?_
    refine v_getr C fl_X0_73 or_eS_4_2 dX0_owe_50 ?_
    refine v_iload_n C dX0_owe_53 rfl ?_
    refine v_iload_n C dX0_owe_54 rfl ?_
    refine v_iast C ar_eS_7 (by decide) _ ?_ rfl dX0_owe_55 ?_
    · omega
    refine v_vret C F dX0_owe_56 (Nat.le_of_ble_eq_true rfl) (Nat.le_of_ble_eq_true rfl) ?_
    first | exact rfl | exact ⟨rfl, rfl⟩
  · refine v_iconst (v := nI 1) C dX0_owe_13 (by decide) ?_
    refine v_goto C 18 dX0_owe_14 (by decide) ?_
    refine v_istore C (lo2 := [some _, some _, some _, some _, some _]) dX0_owe_18 rfl (Nat.le_of_ble_eq_true rfl) rfl ?_
    refine v_aload_n C dX0_owe_20 rfl ?_
    refine v_getr C fl_X0_12 or_eS_0_0 dX0_owe_21 ?_
    refine v_getr C fl_X0_67 or_eS_4_1 dX0_owe_24 ?_
    refine v_iload_n C dX0_owe_27 rfl ?_
    refine v_iload C dX0_owe_28 rfl ?_
    refine v_if_eq C 44 dX0_owe_30 (by decide) (fun c => absurd c (by decide)) (fun c30 => ?_)
    refine v_aload_n C dX0_owe_33 rfl ?_
    refine v_getr C fl_X0_12 or_eS_0_0 dX0_owe_34 ?_
    refine v_iload_n C dX0_owe_37 rfl ?_
    refine v_callVi C (c_X2_rootOf hl hI hq) ym_X2_rootOf ml_X0_70 emb_e_m rfl rfl rfl rfl rfl dX0_owe_38 (Nat.le_of_ble_eq_true rfl) (Nat.le_of_ble_eq_true rfl) (Nat.le_of_ble_eq_true rfl) (Nat.le_of_ble_eq_true rfl) (fun _ _ hu => hu.elim) (fun r u hu => ?_)
    obtain ⟨rfl, hu⟩ := hu
    subst u
    refine v_goto C 45 dX0_owe_41 (by decide) ?_
    refine v_iast C ar_eS_6 (by decide) _ ?_ rfl dX0_owe_45 ?_
    · omega
    refine V.stt (g2 := (s, srcM m j (nI (if m 5 3 = nI 1 then rootM m q else q)))) (by first | exact congrArg (fun z => (s, srcM m j (nI z))) (if_pos c10).symm | exact congrArg (fun z => (s, srcM m j (nI z))) (if_neg c10).symm) ?_
    refine v_aload_n C dX0_owe_46 rfl ?_
    refine v_getr C fl_X0_12 or_eS_0_0 dX0_owe_47 ?_
    refine v_getr C fl_X0_73 or_eS_4_2 dX0_owe_50 ?_
    refine v_iload_n C dX0_owe_53 rfl ?_
    refine v_iload_n C dX0_owe_54 rfl ?_
    refine v_iast C ar_eS_7 (by decide) _ ?_ rfl dX0_owe_55 ?_
    · omega
    refine v_vret C F dX0_owe_56 (Nat.le_of_ble_eq_true rfl) (Nat.le_of_ble_eq_true rfl) ?_
    first | exact rfl | exact ⟨rfl, rfl⟩
set_option maxHeartbeats 4000000 in
theorem c_X0_pay {l : Launch} (hl : l.stackTraces = false) {κ : Kp} {h : Nat → Nat} {s : G} {m : Mg} {p k n : Nat} (hI : IM m n) (hE : EvOK m) (hk : k = 1 ∨ k = 2 ∨ k = 3) (hp : p < n) : Ct SS MM l κ yX0_pay cX0_pay 3 none 1 0 0 [.ref (h 0), .int (nI p), .int (nI k)] (eS κ h) (s, m) rv (fun _ u => u = (s, payO k m p)) (fun _ _ => False) := by
  refine Ct.of (own := RX0) (by decide) rfl hl (by intro v hv; simp only [List.mem_cons, List.not_mem_nil, or_false] at hv; first | (rcases hv with rfl | rfl | rfl | rfl | rfl | rfl <;> rfl) | (rcases hv with rfl | rfl | rfl | rfl | rfl <;> rfl) | (rcases hv with rfl | rfl | rfl | rfl <;> rfl) | (rcases hv with rfl | rfl | rfl <;> rfl) | (rcases hv with rfl | rfl <;> rfl) | (subst hv; rfl) | exact hv.elim) (Nat.le_of_ble_eq_true rfl) (fun X hxl hxk C F N => ?_)
  subst hxl hxk
  show V X (eS (xK X) h) 0 [some (.ref (h 0)), some (.int (nI p)), some (.int (nI k))] [] (s, m) 0 0
  have h96 := hI.2.1
  have hr := (root_end hI p hp).1
  refine v_aload_n C dX0_pay_0 rfl ?_
  refine v_getr C fl_X0_12 or_eS_0_0 dX0_pay_1 ?_
  refine v_iload_n C dX0_pay_4 rfl ?_
  refine v_callVi C (c_X2_owesN hl hI.1 h96 hp) ym_X2_owes ml_X0_103 emb_e_m rfl rfl rfl rfl rfl dX0_pay_5 (Nat.le_of_ble_eq_true rfl) (Nat.le_of_ble_eq_true rfl) (Nat.le_of_ble_eq_true rfl) (Nat.le_of_ble_eq_true rfl) (fun _ _ hu => hu.elim) (fun r u hu => ?_)
  obtain ⟨rfl, hu⟩ := hu
  subst u
  refine v_if_eqB C 70 dX0_pay_8 (by decide) (fun c8 => ?_) (fun c8 => ?_)
  · have hz : payO k m p = m := by unfold payO; rw [c8]; rfl
    refine v_vret C F dX0_pay_70 (Nat.le_of_ble_eq_true rfl) (Nat.le_of_ble_eq_true rfl) ?_
    rw [hz]
  · have hz : payO k m p = payM k m p := by unfold payO; rw [c8]; rfl
    refine v_aload_n C dX0_pay_11 rfl ?_
    refine v_getr C fl_X0_12 or_eS_0_0 dX0_pay_12 ?_
    refine v_getr C fl_X0_51 or_eS_4_0 dX0_pay_15 ?_
    refine v_iload_n C dX0_pay_18 rfl ?_
    refine v_aload_n C dX0_pay_19 rfl ?_
    refine v_getr C fl_X0_12 or_eS_0_0 dX0_pay_20 ?_
    refine v_getr C fl_X0_51 or_eS_4_0 dX0_pay_23 ?_
    refine v_aload_n C dX0_pay_26 rfl ?_
    refine v_getr C fl_X0_12 or_eS_0_0 dX0_pay_27 ?_
    refine v_iload_n C dX0_pay_30 rfl ?_
    refine v_callVi C (c_X2_rootOf hl hI hp) ym_X2_rootOf ml_X0_70 emb_e_m rfl rfl rfl rfl rfl dX0_pay_31 (Nat.le_of_ble_eq_true rfl) (Nat.le_of_ble_eq_true rfl) (Nat.le_of_ble_eq_true rfl) (Nat.le_of_ble_eq_true rfl) (fun _ _ hu => hu.elim) (fun r u hu => ?_)
    obtain ⟨rfl, hu⟩ := hu
    subst u
    refine v_iald C ar_eS_5 (by decide) _ ?_ rfl dX0_pay_34 ?_
    · omega
    refine v_iast C ar_eS_5 (by decide) _ ?_ rfl dX0_pay_35 ?_
    · omega
    refine V.stt (g2 := (s, byteM m p (valM m p))) (rfl) ?_
    refine v_aload_n C dX0_pay_36 rfl ?_
    refine v_getr C fl_X0_12 or_eS_0_0 dX0_pay_37 ?_
    refine v_iload_n C dX0_pay_40 rfl ?_
    refine v_callVv C (c_X2_endDebt hl ?_) ym_X2_endDebt ml_X0_111 emb_e_m rfl rfl rfl rfl rfl dX0_pay_41 (Nat.le_of_ble_eq_true rfl) (Nat.le_of_ble_eq_true rfl) (Nat.le_of_ble_eq_true rfl) (Nat.le_of_ble_eq_true rfl) (fun _ _ hu => hu.elim) (fun r u hu => ?_)
    · first | assumption | omega
    subst u
    refine V.stt (g2 := (s, endM (byteM m p (valM m p)) p)) (rfl) ?_
    refine v_aload_n C dX0_pay_44 rfl ?_
    refine v_getr C fl_X0_12 or_eS_0_0 dX0_pay_45 ?_
    refine v_iload_n C dX0_pay_48 rfl ?_
    refine v_iload_n C dX0_pay_49 rfl ?_
    refine v_aload_n C dX0_pay_50 rfl ?_
    refine v_getr C fl_X0_12 or_eS_0_0 dX0_pay_51 ?_
    refine v_getr C fl_X0_51 or_eS_4_0 dX0_pay_54 ?_
    refine v_iload_n C dX0_pay_57 rfl ?_
    refine v_ialdQ (x := valM m p) C ar_eS_5 (by decide) _ (by show endM (byteM m p (valM m p)) p 1 p = valM m p; rw [endM_c (by decide) (by decide)]; exact upd_s) ?_ rfl dX0_pay_58 ?_
    · omega
    refine v_callVv C (c_X2_note hl ?_) ym_X2_note ml_X0_32 emb_e_m rfl rfl rfl rfl rfl dX0_pay_59 (Nat.le_of_ble_eq_true rfl) (Nat.le_of_ble_eq_true rfl) (Nat.le_of_ble_eq_true rfl) (Nat.le_of_ble_eq_true rfl) (fun _ _ hu => hu.elim) (fun r u hu => ?_)
    · exact EvOK.of hE rfl
    subst u
    refine V.stt (g2 := (s, noteM (endM (byteM m p (valM m p)) p) (nI k) (nI p) (valM m p))) (rfl) ?_
    refine v_aload_n C dX0_pay_62 rfl ?_
    refine v_getr C fl_X0_12 or_eS_0_0 dX0_pay_63 ?_
    refine v_iload_n C dX0_pay_66 rfl ?_
    refine v_callVv C (c_X2_countPayment hl hk) ym_X2_countPayment ml_X0_54 emb_e_m rfl rfl rfl rfl rfl dX0_pay_67 (Nat.le_of_ble_eq_true rfl) (Nat.le_of_ble_eq_true rfl) (Nat.le_of_ble_eq_true rfl) (Nat.le_of_ble_eq_true rfl) (fun _ _ hu => hu.elim) (fun r u hu => ?_)
    subst u
    refine V.stt (g2 := (s, payM k m p)) (rfl) ?_
    refine v_vret C F dX0_pay_70 (Nat.le_of_ble_eq_true rfl) (Nat.le_of_ble_eq_true rfl) ?_
    rw [hz]
set_option maxHeartbeats 4000000 in
theorem c_X0_payDependents {l : Launch} (hl : l.stackTraces = false) {κ : Kp} {h : Nat → Nat} {s : G} {m : Mg} {n : Nat} {T : Nat → Bool} (hI : IM m n) (hE : EvOK m) (hT : ∀ p, p < 96 → s 1 p = bI (T p)) : Ct SS MM l κ yX0_payDependents cX0_payDependents 3 (some FieldType.int) 2 0 0 [.ref (h 0)] (eS κ h) (s, m) ri (fun r u => r = nI (depM T n m).1 ∧ u = (s, (depM T n m).2)) (fun _ _ => False) := by
  refine Ct.of (own := RX0) (by decide) rfl hl (by intro v hv; simp only [List.mem_cons, List.not_mem_nil, or_false] at hv; first | (rcases hv with rfl | rfl | rfl | rfl | rfl | rfl <;> rfl) | (rcases hv with rfl | rfl | rfl | rfl | rfl <;> rfl) | (rcases hv with rfl | rfl | rfl | rfl <;> rfl) | (rcases hv with rfl | rfl | rfl <;> rfl) | (rcases hv with rfl | rfl <;> rfl) | (subst hv; rfl) | exact hv.elim) (Nat.le_of_ble_eq_true rfl) (fun X hxl hxk C F N => ?_)
  subst hxl hxk
  show V X (eS (xK X) h) 0 [some (.ref (h 0)), none, none] [] (s, m) 0 0
  have h96 := hI.2.1
  refine v_iconst (v := nI 0) C dX0_payDependents_0 (by decide) ?_
  refine v_istore_n C (lo2 := [some _, some _, none]) dX0_payDependents_1 rfl (Nat.le_of_ble_eq_true rfl) rfl ?_
  refine v_iconst (v := nI 0) C dX0_payDependents_2 (by decide) ?_
  refine v_istore_n C (lo2 := [some _, some _, some _]) dX0_payDependents_3 rfl (Nat.le_of_ble_eq_true rfl) rfl ?_
  have L4 : ∀ (t : Nat × Nat × Mg), (fun t => forG (depS T) t.1 (n - t.1) (t.2.1, t.2.2) = depM T n m ∧ Pd n m t.2.2 ∧ t.2.1 ≤ t.1 ∧ t.1 ≤ n) t → (fun t : Nat × Nat × Mg => V X (eS (xK X) h) 4 [some (.ref (h 0)), some (.int (nI t.2.1)), some (.int (nI t.1))] [] (s, t.2.2) 0 0) t := by
    refine v_ind (fun t : Nat × Nat × Mg => n - t.1) ?_
    rintro ⟨i, c, y⟩ ih4 hI4
    try dsimp only at hI4 ⊢
    obtain ⟨i1, i2, i3, i4⟩ := hI4
    have hy := i2.im hI
    have hE2 := i2.1.2.2.2.2 hE
    have hn := hy.1
    refine v_iload_n C dX0_payDependents_4 rfl ?_
    refine v_aload_n C dX0_payDependents_5 rfl ?_
    refine v_getr C fl_X0_12 or_eS_0_0 dX0_payDependents_6 ?_
    refine v_getiQ (x := nI n) C fl_X0_107 oi_eS_4_7 (hn) dX0_payDependents_9 ?_
    first | refine v_icmp_geN C 67 dX0_payDependents_12 (by decide) (by omega) (by omega) (fun c12 => ?_) (fun c12 => ?_) | refine v_icmp_ge C 67 dX0_payDependents_12 (by decide) (fun c12 => ?_) (fun c12 => ?_)
    · refine v_iload_n C dX0_payDependents_67 rfl ?_
      refine v_iret C F (by first | rfl | exact bI_nar _) dX0_payDependents_68 (Nat.le_of_ble_eq_true rfl) (Nat.le_of_ble_eq_true rfl) ?_
      rw [forG_0 (by omega)] at i1
      exact ⟨by rw [← i1], by rw [← i1]⟩
    · refine v_aload_n C dX0_payDependents_15 rfl ?_
      refine v_getr C fl_X0_18 or_eS_0_1 dX0_payDependents_16 ?_
      refine v_iload_n C dX0_payDependents_19 rfl ?_
      refine v_zaldQ (x := bI (T i)) C ar_eS_1 (by decide) _ (hT i (by omega)) ?_ rfl dX0_payDependents_20 ?_
      · omega
      refine v_if_neB C 61 dX0_payDependents_21 (by decide) (fun c21 => ?_) (fun c21 => ?_)
      · first | refine v_iinc1 C (lo2 := [some _, some _, some _]) dX0_payDependents_61 rfl rfl rfl ?_ | refine v_iinc C (lo2 := [some _, some _, some _]) dX0_payDependents_61 rfl rfl rfl rfl ?_
        refine v_goto C 4 dX0_payDependents_64 (by decide) ?_
        have hib : i < n := by omega
        rw [forG_s hib] at i1
        first
        | (have hz : depS T i (c, y) = (c + 1, payM 2 y i) := by
             unfold depS
             rw [c21, c32, c49]
             rfl
           rw [hz] at i1
           exact ih4 (i + 1, c + 1, payM 2 y i) (by show n - (i + 1) < n - i; omega) ⟨i1, (show Pd n m (payM 2 y i) from i2.trans hI (payM_Pd hib)), by show c + 1 ≤ i + 1; omega, by show i + 1 ≤ n; omega⟩)
        | (have hz : depS T i (c, y) = (c, y) := by
             unfold depS
             first
             | (rw [c21]; rfl)
             | (rw [c21, c32]; rfl)
             | (rw [c21, c32, c49]; rfl)
           rw [hz] at i1
           exact ih4 (i + 1, c, y) (by show n - (i + 1) < n - i; omega) ⟨i1, i2, by show c ≤ i + 1; omega, by show i + 1 ≤ n; omega⟩)
      · refine v_aload_n C dX0_payDependents_24 rfl ?_
        refine v_getr C fl_X0_12 or_eS_0_0 dX0_payDependents_25 ?_
        refine v_iload_n C dX0_payDependents_28 rfl ?_
        refine v_callVi C (c_X2_owesN hl (n := n) ?_ ?_ ?_) ym_X2_owes ml_X0_103 emb_e_m rfl rfl rfl rfl rfl dX0_payDependents_29 (Nat.le_of_ble_eq_true rfl) (Nat.le_of_ble_eq_true rfl) (Nat.le_of_ble_eq_true rfl) (Nat.le_of_ble_eq_true rfl) (fun _ _ hu => hu.elim) (fun r u hu => ?_)
        · first | assumption | omega
        · first | assumption | omega
        · first | assumption | omega
        obtain ⟨rfl, hu⟩ := hu
        subst u
        refine v_if_eqB C 61 dX0_payDependents_32 (by decide) (fun c32 => ?_) (fun c32 => ?_)
        · first | refine v_iinc1 C (lo2 := [some _, some _, some _]) dX0_payDependents_61 rfl rfl rfl ?_ | refine v_iinc C (lo2 := [some _, some _, some _]) dX0_payDependents_61 rfl rfl rfl rfl ?_
          refine v_goto C 4 dX0_payDependents_64 (by decide) ?_
          have hib : i < n := by omega
          rw [forG_s hib] at i1
          first
          | (have hz : depS T i (c, y) = (c + 1, payM 2 y i) := by
               unfold depS
               rw [c21, c32, c49]
               rfl
             rw [hz] at i1
             exact ih4 (i + 1, c + 1, payM 2 y i) (by show n - (i + 1) < n - i; omega) ⟨i1, (show Pd n m (payM 2 y i) from i2.trans hI (payM_Pd hib)), by show c + 1 ≤ i + 1; omega, by show i + 1 ≤ n; omega⟩)
          | (have hz : depS T i (c, y) = (c, y) := by
               unfold depS
               first
               | (rw [c21]; rfl)
               | (rw [c21, c32]; rfl)
               | (rw [c21, c32, c49]; rfl)
             rw [hz] at i1
             exact ih4 (i + 1, c, y) (by show n - (i + 1) < n - i; omega) ⟨i1, i2, by show c ≤ i + 1; omega, by show i + 1 ≤ n; omega⟩)
        · have hs := IM_src hy (show i < n by omega) (owb_t.mp c32)
          refine v_aload_n C dX0_payDependents_35 rfl ?_
          refine v_getr C fl_X0_18 or_eS_0_1 dX0_payDependents_36 ?_
          refine v_aload_n C dX0_payDependents_39 rfl ?_
          refine v_getr C fl_X0_12 or_eS_0_0 dX0_payDependents_40 ?_
          refine v_getr C fl_X0_67 or_eS_4_1 dX0_payDependents_43 ?_
          refine v_iload_n C dX0_payDependents_46 rfl ?_
          refine v_ialdQ (x := nI (src y i)) C ar_eS_6 (by decide) _ (hs.2) ?_ rfl dX0_payDependents_47 ?_
          · omega
          refine v_zaldQ (x := bI (T (src y i))) C ar_eS_1 (by decide) _ (hT _ (by omega)) ?_ rfl dX0_payDependents_48 ?_
          · omega
          refine v_if_eqB C 61 dX0_payDependents_49 (by decide) (fun c49 => ?_) (fun c49 => ?_)
          · first | refine v_iinc1 C (lo2 := [some _, some _, some _]) dX0_payDependents_61 rfl rfl rfl ?_ | refine v_iinc C (lo2 := [some _, some _, some _]) dX0_payDependents_61 rfl rfl rfl rfl ?_
            refine v_goto C 4 dX0_payDependents_64 (by decide) ?_
            have hib : i < n := by omega
            rw [forG_s hib] at i1
            first
            | (have hz : depS T i (c, y) = (c + 1, payM 2 y i) := by
                 unfold depS
                 rw [c21, c32, c49]
                 rfl
               rw [hz] at i1
               exact ih4 (i + 1, c + 1, payM 2 y i) (by show n - (i + 1) < n - i; omega) ⟨i1, (show Pd n m (payM 2 y i) from i2.trans hI (payM_Pd hib)), by show c + 1 ≤ i + 1; omega, by show i + 1 ≤ n; omega⟩)
            | (have hz : depS T i (c, y) = (c, y) := by
                 unfold depS
                 first
                 | (rw [c21]; rfl)
                 | (rw [c21, c32]; rfl)
                 | (rw [c21, c32, c49]; rfl)
               rw [hz] at i1
               exact ih4 (i + 1, c, y) (by show n - (i + 1) < n - i; omega) ⟨i1, i2, by show c ≤ i + 1; omega, by show i + 1 ≤ n; omega⟩)
          · refine v_aload_n C dX0_payDependents_52 rfl ?_
            refine v_iload_n C dX0_payDependents_53 rfl ?_
            refine v_iconst (v := nI 2) C dX0_payDependents_54 (by decide) ?_
            refine v_callVv C (c_X0_pay hl (n := n) ?_ ?_ ?_ ?_) ym_X0_pay ml_X0_79 emb_id_eS rfl rfl rfl rfl rfl dX0_payDependents_55 (Nat.le_of_ble_eq_true rfl) (Nat.le_of_ble_eq_true rfl) (Nat.le_of_ble_eq_true rfl) (Nat.le_of_ble_eq_true rfl) (fun _ _ hu => hu.elim) (fun r u hu => ?_)
            · first | assumption | omega
            · first | assumption | omega
            · first | assumption | omega
            · first | assumption | omega
            subst u
            refine V.stt (g2 := (s, payM 2 y i)) (by rw [payO, if_pos c32]) ?_
            first | refine v_iinc1 C (lo2 := [some _, some _, some _]) dX0_payDependents_58 rfl rfl rfl ?_ | refine v_iinc C (lo2 := [some _, some _, some _]) dX0_payDependents_58 rfl rfl rfl rfl ?_
            first | refine v_iinc1 C (lo2 := [some _, some _, some _]) dX0_payDependents_61 rfl rfl rfl ?_ | refine v_iinc C (lo2 := [some _, some _, some _]) dX0_payDependents_61 rfl rfl rfl rfl ?_
            refine v_goto C 4 dX0_payDependents_64 (by decide) ?_
            have hib : i < n := by omega
            rw [forG_s hib] at i1
            first
            | (have hz : depS T i (c, y) = (c + 1, payM 2 y i) := by
                 unfold depS
                 rw [c21, c32, c49]
                 rfl
               rw [hz] at i1
               exact ih4 (i + 1, c + 1, payM 2 y i) (by show n - (i + 1) < n - i; omega) ⟨i1, (show Pd n m (payM 2 y i) from i2.trans hI (payM_Pd hib)), by show c + 1 ≤ i + 1; omega, by show i + 1 ≤ n; omega⟩)
            | (have hz : depS T i (c, y) = (c, y) := by
                 unfold depS
                 first
                 | (rw [c21]; rfl)
                 | (rw [c21, c32]; rfl)
                 | (rw [c21, c32, c49]; rfl)
               rw [hz] at i1
               exact ih4 (i + 1, c, y) (by show n - (i + 1) < n - i; omega) ⟨i1, i2, by show c ≤ i + 1; omega, by show i + 1 ≤ n; omega⟩)
  exact L4 (0, 0, m) ⟨rfl, Pd.rfl, Nat.le_refl _, Nat.zero_le _⟩
set_option maxHeartbeats 4000000 in
theorem c_X0_dropTouched {l : Launch} (hl : l.stackTraces = false) {κ : Kp} {h : Nat → Nat} {s : G} {m : Mg} {n : Nat} {T : Nat → Bool} (hn0 : m 0 7 = nI n) (h96 : n ≤ 96) (hE : EvOK m) (hT : ∀ p, p < 96 → s 1 p = bI (T p)) : Ct SS MM l κ yX0_dropTouched cX0_dropTouched 2 none 1 0 0 [.ref (h 0)] (eS κ h) (s, m) rv (fun _ u => u = (s, drpM T n m)) (fun _ _ => False) := by
  refine Ct.of (own := RX0) (by decide) rfl hl (by intro v hv; simp only [List.mem_cons, List.not_mem_nil, or_false] at hv; first | (rcases hv with rfl | rfl | rfl | rfl | rfl | rfl <;> rfl) | (rcases hv with rfl | rfl | rfl | rfl | rfl <;> rfl) | (rcases hv with rfl | rfl | rfl | rfl <;> rfl) | (rcases hv with rfl | rfl | rfl <;> rfl) | (rcases hv with rfl | rfl <;> rfl) | (subst hv; rfl) | exact hv.elim) (Nat.le_of_ble_eq_true rfl) (fun X hxl hxk C F N => ?_)
  subst hxl hxk
  show V X (eS (xK X) h) 0 [some (.ref (h 0)), none] [] (s, m) 0 0
  refine v_iconst (v := nI 0) C dX0_dropTouched_0 (by decide) ?_
  refine v_istore_n C (lo2 := [some _, some _]) dX0_dropTouched_1 rfl (Nat.le_of_ble_eq_true rfl) rfl ?_
  have L2 : ∀ (t : Nat × Mg), (fun t => forG (drpS T) t.1 (n - t.1) t.2 = drpM T n m ∧ t.2 0 7 = nI n ∧ EvOK t.2 ∧ t.1 ≤ n) t → (fun t : Nat × Mg => V X (eS (xK X) h) 2 [some (.ref (h 0)), some (.int (nI t.1))] [] (s, t.2) 0 0) t := by
    refine v_ind (fun t : Nat × Mg => n - t.1) ?_
    rintro ⟨i, y⟩ ih2 hI2
    try dsimp only at hI2 ⊢
    obtain ⟨i1, hn, hE2, i4⟩ := hI2
    refine v_iload_n C dX0_dropTouched_2 rfl ?_
    refine v_aload_n C dX0_dropTouched_3 rfl ?_
    refine v_getr C fl_X0_12 or_eS_0_0 dX0_dropTouched_4 ?_
    refine v_getiQ (x := nI n) C fl_X0_107 oi_eS_4_7 (hn) dX0_dropTouched_7 ?_
    first | refine v_icmp_geN C 78 dX0_dropTouched_10 (by decide) (by omega) (by omega) (fun c10 => ?_) (fun c10 => ?_) | refine v_icmp_ge C 78 dX0_dropTouched_10 (by decide) (fun c10 => ?_) (fun c10 => ?_)
    · refine v_vret C F dX0_dropTouched_78 (Nat.le_of_ble_eq_true rfl) (Nat.le_of_ble_eq_true rfl) ?_
      rw [forG_0 (by omega)] at i1
      rw [← i1]
    · refine v_aload_n C dX0_dropTouched_13 rfl ?_
      refine v_getr C fl_X0_18 or_eS_0_1 dX0_dropTouched_14 ?_
      refine v_iload_n C dX0_dropTouched_17 rfl ?_
      refine v_zaldQ (x := bI (T i)) C ar_eS_1 (by decide) _ (hT i (by omega)) ?_ rfl dX0_dropTouched_18 ?_
      · omega
      refine v_if_eqB C 72 dX0_dropTouched_19 (by decide) (fun c19 => ?_) (fun c19 => ?_)
      · first | refine v_iinc1 C (lo2 := [some _, some _]) dX0_dropTouched_72 rfl rfl rfl ?_ | refine v_iinc C (lo2 := [some _, some _]) dX0_dropTouched_72 rfl rfl rfl rfl ?_
        refine v_goto C 2 dX0_dropTouched_75 (by decide) ?_
        have hib : i < n := by omega
        rw [forG_s hib] at i1
        first
        | (have hz : drpS T i y = dropM y i := by
             unfold drpS dropO
             rw [c19, c30]
             rfl
           rw [hz] at i1
           exact ih2 (i + 1, dropM y i) (by show n - (i + 1) < n - i; omega) ⟨i1, dropM_07.trans hn, dropM_ev hE2, by show i + 1 ≤ n; omega⟩)
        | (have hz : drpS T i y = y := by
             unfold drpS dropO
             first
             | (rw [c19]; rfl)
             | (rw [c19, c30]; rfl)
           rw [hz] at i1
           exact ih2 (i + 1, y) (by show n - (i + 1) < n - i; omega) ⟨i1, hn, hE2, by show i + 1 ≤ n; omega⟩)
      · refine v_aload_n C dX0_dropTouched_22 rfl ?_
        refine v_getr C fl_X0_12 or_eS_0_0 dX0_dropTouched_23 ?_
        refine v_iload_n C dX0_dropTouched_26 rfl ?_
        refine v_callVi C (c_X2_owesN hl (n := n) ?_ ?_ ?_) ym_X2_owes ml_X0_103 emb_e_m rfl rfl rfl rfl rfl dX0_dropTouched_27 (Nat.le_of_ble_eq_true rfl) (Nat.le_of_ble_eq_true rfl) (Nat.le_of_ble_eq_true rfl) (Nat.le_of_ble_eq_true rfl) (fun _ _ hu => hu.elim) (fun r u hu => ?_)
        · first | assumption | omega
        · first | assumption | omega
        · first | assumption | omega
        obtain ⟨rfl, hu⟩ := hu
        subst u
        refine v_if_eqB C 72 dX0_dropTouched_30 (by decide) (fun c30 => ?_) (fun c30 => ?_)
        · first | refine v_iinc1 C (lo2 := [some _, some _]) dX0_dropTouched_72 rfl rfl rfl ?_ | refine v_iinc C (lo2 := [some _, some _]) dX0_dropTouched_72 rfl rfl rfl rfl ?_
          refine v_goto C 2 dX0_dropTouched_75 (by decide) ?_
          have hib : i < n := by omega
          rw [forG_s hib] at i1
          first
          | (have hz : drpS T i y = dropM y i := by
               unfold drpS dropO
               rw [c19, c30]
               rfl
             rw [hz] at i1
             exact ih2 (i + 1, dropM y i) (by show n - (i + 1) < n - i; omega) ⟨i1, dropM_07.trans hn, dropM_ev hE2, by show i + 1 ≤ n; omega⟩)
          | (have hz : drpS T i y = y := by
               unfold drpS dropO
               first
               | (rw [c19]; rfl)
               | (rw [c19, c30]; rfl)
             rw [hz] at i1
             exact ih2 (i + 1, y) (by show n - (i + 1) < n - i; omega) ⟨i1, hn, hE2, by show i + 1 ≤ n; omega⟩)
        · refine v_aload_n C dX0_dropTouched_33 rfl ?_
          refine v_getr C fl_X0_12 or_eS_0_0 dX0_dropTouched_34 ?_
          refine v_getr C fl_X0_29 or_eS_4_5 dX0_dropTouched_37 ?_
          refine v_iconst (v := nI 5) C dX0_dropTouched_40 (by decide) ?_
          refine v_dup2 C dX0_dropTouched_41 rfl rfl ?_
          refine v_ialdQ (x := y 6 5) C ar_eS_10 (by decide) _ (rfl) ?_ rfl dX0_dropTouched_42 ?_
          · omega
          refine v_iconst (v := nI 1) C dX0_dropTouched_43 (by decide) ?_
          first | refine v_iaddN C dX0_dropTouched_44 ?_ | refine v_iadd C dX0_dropTouched_44 ?_
          refine v_iast C ar_eS_10 (by decide) _ ?_ rfl dX0_dropTouched_45 ?_
          · omega
          refine V.stt (g2 := (s, accM y 5 (nI 1))) (rfl) ?_
          refine v_aload_n C dX0_dropTouched_46 rfl ?_
          refine v_getr C fl_X0_12 or_eS_0_0 dX0_dropTouched_47 ?_
          refine v_iconst (v := nI 4) C dX0_dropTouched_50 (by decide) ?_
          refine v_iload_n C dX0_dropTouched_51 rfl ?_
          refine v_aload_n C dX0_dropTouched_52 rfl ?_
          refine v_getr C fl_X0_12 or_eS_0_0 dX0_dropTouched_53 ?_
          refine v_getr C fl_X0_73 or_eS_4_2 dX0_dropTouched_56 ?_
          refine v_iload_n C dX0_dropTouched_59 rfl ?_
          refine v_ialdQ (x := y 3 i) C ar_eS_7 (by decide) _ (rfl) ?_ rfl dX0_dropTouched_60 ?_
          · omega
          refine v_callVv C (c_X2_note hl ?_) ym_X2_note ml_X0_32 emb_e_m rfl rfl rfl rfl rfl dX0_dropTouched_61 (Nat.le_of_ble_eq_true rfl) (Nat.le_of_ble_eq_true rfl) (Nat.le_of_ble_eq_true rfl) (Nat.le_of_ble_eq_true rfl) (fun _ _ hu => hu.elim) (fun r u hu => ?_)
          · exact EvOK.of hE2 rfl
          subst u
          refine V.stt (g2 := (s, noteM (accM y 5 (nI 1)) (nI 4) (nI i) (y 3 i))) (rfl) ?_
          refine v_aload_n C dX0_dropTouched_64 rfl ?_
          refine v_getr C fl_X0_12 or_eS_0_0 dX0_dropTouched_65 ?_
          refine v_iload_n C dX0_dropTouched_68 rfl ?_
          refine v_callVv C (c_X2_endDebt hl ?_) ym_X2_endDebt ml_X0_111 emb_e_m rfl rfl rfl rfl rfl dX0_dropTouched_69 (Nat.le_of_ble_eq_true rfl) (Nat.le_of_ble_eq_true rfl) (Nat.le_of_ble_eq_true rfl) (Nat.le_of_ble_eq_true rfl) (fun _ _ hu => hu.elim) (fun r u hu => ?_)
          · first | assumption | omega
          subst u
          refine V.stt (g2 := (s, dropM y i)) (rfl) ?_
          first | refine v_iinc1 C (lo2 := [some _, some _]) dX0_dropTouched_72 rfl rfl rfl ?_ | refine v_iinc C (lo2 := [some _, some _]) dX0_dropTouched_72 rfl rfl rfl rfl ?_
          refine v_goto C 2 dX0_dropTouched_75 (by decide) ?_
          have hib : i < n := by omega
          rw [forG_s hib] at i1
          first
          | (have hz : drpS T i y = dropM y i := by
               unfold drpS dropO
               rw [c19, c30]
               rfl
             rw [hz] at i1
             exact ih2 (i + 1, dropM y i) (by show n - (i + 1) < n - i; omega) ⟨i1, dropM_07.trans hn, dropM_ev hE2, by show i + 1 ≤ n; omega⟩)
          | (have hz : drpS T i y = y := by
               unfold drpS dropO
               first
               | (rw [c19]; rfl)
               | (rw [c19, c30]; rfl)
             rw [hz] at i1
             exact ih2 (i + 1, y) (by show n - (i + 1) < n - i; omega) ⟨i1, hn, hE2, by show i + 1 ≤ n; omega⟩)
  exact L2 (0, m) ⟨rfl, hn0, hE, Nat.zero_le _⟩
set_option maxHeartbeats 4000000 in
theorem c_X0_measureDepths {l : Launch} (hl : l.stackTraces = false) {κ : Kp} {h : Nat → Nat} {s : G} {m : Mg} {n : Nat} (hI : IM m n) : Ct SS MM l κ yX0_measureDepths cX0_measureDepths 6 none 0 0 0 [.ref (h 0)] (eS κ h) (s, m) rv (fun _ u => ∃ d, u = (sG s 3 d, m) ∧ ∀ p, p < n → d p = nI (hopsM m p)) (fun _ _ => False) := by
  refine Ct.of (own := RX0) (by decide) rfl hl (by intro v hv; simp only [List.mem_cons, List.not_mem_nil, or_false] at hv; first | (rcases hv with rfl | rfl | rfl | rfl | rfl | rfl <;> rfl) | (rcases hv with rfl | rfl | rfl | rfl | rfl <;> rfl) | (rcases hv with rfl | rfl | rfl | rfl <;> rfl) | (rcases hv with rfl | rfl | rfl <;> rfl) | (rcases hv with rfl | rfl <;> rfl) | (subst hv; rfl) | exact hv.elim) (Nat.le_of_ble_eq_true rfl) (fun X hxl hxk C F N => ?_)
  subst hxl hxk
  show V X (eS (xK X) h) 0 [some (.ref (h 0)), none, none, none, none, none] [] (s, m) 0 0
  have h96 := hI.2.1
  have hn := hI.1
  have hh : ∀ p, p < n → hopsM m p < 96 := fun p hp => Nat.lt_of_lt_of_le (hops_lt hI hp) h96
  refine v_iconst (v := nI 0) C dX0_measureDepths_0 (by decide) ?_
  refine v_istore_n C (lo2 := [some _, some _, none, none, none, none]) dX0_measureDepths_1 rfl (Nat.le_of_ble_eq_true rfl) rfl ?_
  have L2 : ∀ (t : Nat), (fun t => t ≤ n) t → (fun t : Nat => V X (eS (xK X) h) 2 [some (.ref (h 0)), some (.int (nI t)), none, none, none, none] [] (sG s 3 (mix t (fun p => if m 2 p = -1 then nI 0 else -1) (s 3)), m) 0 0) t := by
    refine v_ind (fun t : Nat => n - t) ?_
    rintro t ih2 hI2
    try dsimp only at hI2 ⊢
    refine v_iload_n C dX0_measureDepths_2 rfl ?_
    refine v_aload_n C dX0_measureDepths_3 rfl ?_
    refine v_getr C fl_X0_12 or_eS_0_0 dX0_measureDepths_4 ?_
    refine v_getiQ (x := nI n) C fl_X0_107 oi_eS_4_7 (hn) dX0_measureDepths_7 ?_
    first | refine v_icmp_geN C 43 dX0_measureDepths_10 (by decide) (by omega) (by omega) (fun c10 => ?_) (fun c10 => ?_) | refine v_icmp_ge C 43 dX0_measureDepths_10 (by decide) (fun c10 => ?_) (fun c10 => ?_)
    · refine v_iconst (v := nI 0) C dX0_measureDepths_43 (by decide) ?_
      refine v_istore_n C (lo2 := [some _, some _, none, none, none, none]) dX0_measureDepths_44 rfl (Nat.le_of_ble_eq_true rfl) rfl ?_
      have L45 : ∀ (t : Nat × (Nat → Int32)), (fun t => t.1 ≤ n ∧ (∀ q, q < n → t.2 q = nI (hopsM m q) ∨ (t.2 q = -1 ∧ owb m q = true)) ∧ ∀ q, q < t.1 → t.2 q = nI (hopsM m q)) t → (fun t : Nat × (Nat → Int32) => V X (eS (xK X) h) 45 [some (.ref (h 0)), some (.int (nI t.1)), none, none, none, none] [] (sG s 3 t.2, m) 0 0) t := by
        refine v_ind (fun t : Nat × (Nat → Int32) => n - t.1) ?_
        rintro ⟨i, d⟩ ih45 hI45
        try dsimp only at hI45 ⊢
        obtain ⟨i1, i2, i3⟩ := hI45
        refine v_iload_n C dX0_measureDepths_45 rfl ?_
        refine v_aload_n C dX0_measureDepths_46 rfl ?_
        refine v_getr C fl_X0_12 or_eS_0_0 dX0_measureDepths_47 ?_
        refine v_getiQ (x := nI n) C fl_X0_107 oi_eS_4_7 (hn) dX0_measureDepths_50 ?_
        first | refine v_icmp_geN C 146 dX0_measureDepths_53 (by decide) (by omega) (by omega) (fun c53 => ?_) (fun c53 => ?_) | refine v_icmp_ge C 146 dX0_measureDepths_53 (by decide) (fun c53 => ?_) (fun c53 => ?_)
        · refine v_vret C F dX0_measureDepths_146 (Nat.le_of_ble_eq_true rfl) (Nat.le_of_ble_eq_true rfl) ?_
          exact ⟨d, rfl, fun p hp => i3 p (by omega)⟩
        · refine v_iconst (v := nI 0) C dX0_measureDepths_56 (by decide) ?_
          refine v_istore_n C (lo2 := [some _, some _, some _, none, none, none]) dX0_measureDepths_57 rfl (Nat.le_of_ble_eq_true rfl) rfl ?_
          refine v_iload_n C dX0_measureDepths_58 rfl ?_
          refine v_istore_n C (lo2 := [some _, some _, some _, some _, none, none]) dX0_measureDepths_59 rfl (Nat.le_of_ble_eq_true rfl) rfl ?_
          have L60 : ∀ (t : Nat × Nat), (fun t => t.1 ≤ 96 ∧ t.2 < n ∧ t.1 + hopsM m t.2 = hopsM m i ∧ (t.1 = 0 → t.2 = i)) t → (fun t : Nat × Nat => V X (eS (xK X) h) 60 [some (.ref (h 0)), some (.int (nI i)), some (.int (nI t.1)), some (.int (nI t.2)), none, none] [] (sG s 3 d, m) 0 0) t := by
            refine v_ind (fun t : Nat × Nat => 96 - t.1) ?_
            rintro ⟨t, a⟩ ih60 hI60
            try dsimp only at hI60 ⊢
            obtain ⟨i4, i5, i6, i7⟩ := hI60
            refine v_iload_n C dX0_measureDepths_60 rfl ?_
            refine v_bipush (v := nI 96) C dX0_measureDepths_61 (by decide) ?_
            first | refine v_icmp_geN C 92 dX0_measureDepths_63 (by decide) (by omega) (by omega) (fun c63 => ?_) (fun c63 => ?_) | refine v_icmp_ge C 92 dX0_measureDepths_63 (by decide) (fun c63 => ?_) (fun c63 => ?_)
            · exfalso
              have := hh i (by omega)
              omega
            · refine v_aload_n C dX0_measureDepths_66 rfl ?_
              refine v_getr C fl_X0_26 or_eS_0_3 dX0_measureDepths_67 ?_
              refine v_iload_n C dX0_measureDepths_70 rfl ?_
              refine v_ialdQ (x := d a) C ar_eS_3 (by decide) _ (rfl) ?_ rfl dX0_measureDepths_71 ?_
              · omega
              refine v_iconst (v := (-1)) C dX0_measureDepths_72 (by decide) ?_
              refine v_icmp_ne C 92 dX0_measureDepths_73 (by decide) (fun c73 => ?_) (fun c73 => ?_)
              · have hda : d a = nI (hopsM m a) := (i2 a i5).resolve_right (fun w => c73 w.1)
                have hia := hh a i5
                have hii := hh i (by omega)
                refine v_aload_n C dX0_measureDepths_92 rfl ?_
                refine v_getr C fl_X0_26 or_eS_0_3 dX0_measureDepths_93 ?_
                refine v_iload_n C dX0_measureDepths_96 rfl ?_
                refine v_ialdQ (x := nI (hopsM m a)) C ar_eS_3 (by decide) _ (hda) ?_ rfl dX0_measureDepths_97 ?_
                · omega
                refine v_iload_n C dX0_measureDepths_98 rfl ?_
                first | refine v_iaddN C dX0_measureDepths_99 ?_ | refine v_iadd C dX0_measureDepths_99 ?_
                refine v_istore C (lo2 := [some _, some _, some _, some _, some _, none]) dX0_measureDepths_100 rfl (Nat.le_of_ble_eq_true rfl) rfl ?_
                refine v_iload_n C dX0_measureDepths_102 rfl ?_
                refine v_istore_n C (lo2 := [some _, some _, some _, some _, some _, none]) dX0_measureDepths_103 rfl (Nat.le_of_ble_eq_true rfl) rfl ?_
                refine v_iconst (v := nI 0) C dX0_measureDepths_104 (by decide) ?_
                refine v_istore C (lo2 := [some _, some _, some _, some _, some _, some _]) dX0_measureDepths_105 rfl (Nat.le_of_ble_eq_true rfl) rfl ?_
                have L107 : ∀ (w : Nat × Nat × (Nat → Int32)), (fun w => w.1 ≤ t ∧ w.2.1 < n ∧ w.1 + hopsM m w.2.1 = hopsM m i ∧ (∀ q, q < n → w.2.2 q = nI (hopsM m q) ∨ (w.2.2 q = -1 ∧ owb m q = true)) ∧ (∀ q, q < i → w.2.2 q = nI (hopsM m q)) ∧ (w.2.2 i = nI (hopsM m i) ∨ (w.1 = 0 ∧ 0 < t ∧ w.2.1 = i))) w → (fun w : Nat × Nat × (Nat → Int32) => V X (eS (xK X) h) 107 [some (.ref (h 0)), some (.int (nI i)), some (.int (nI t)), some (.int (nI w.2.1)), some (.int (nI (hopsM m a + t))), some (.int (nI w.1))] [] (sG s 3 w.2.2, m) 0 0) w := by
                  refine v_ind (fun w : Nat × Nat × (Nat → Int32) => t - w.1) ?_
                  rintro ⟨k, b, e⟩ ih107 hI107
                  try dsimp only at hI107 ⊢
                  obtain ⟨j1, j2, j3, j4, j5, j6⟩ := hI107
                  refine v_iload C dX0_measureDepths_107 rfl ?_
                  refine v_iload_n C dX0_measureDepths_109 rfl ?_
                  first | refine v_icmp_geN C 140 dX0_measureDepths_110 (by decide) (by omega) (by omega) (fun c110 => ?_) (fun c110 => ?_) | refine v_icmp_ge C 140 dX0_measureDepths_110 (by decide) (fun c110 => ?_) (fun c110 => ?_)
                  · first | refine v_iinc1 C (lo2 := [some _, some _, some _, some _, some _, some _]) dX0_measureDepths_140 rfl rfl rfl ?_ | refine v_iinc C (lo2 := [some _, some _, some _, some _, some _, some _]) dX0_measureDepths_140 rfl rfl rfl rfl ?_
                    refine v_goto C 45 dX0_measureDepths_143 (by decide) ?_
                    refine V.sub (lo2 := [some _, some _, none, none, none, none]) ⟨rfl, rfl, trivial⟩ ?_
                    exact ih45 (i + 1, e) (by show n - (i + 1) < n - i; omega) ⟨by show i + 1 ≤ n; omega, j4, fun q hq => by
                      by_cases z : q = i
                      · subst z
                        exact j6.resolve_right (fun w => by omega)
                      · exact j5 q (by have hq : q < i + 1 := hq; omega)⟩
                  · have hkb : ¬ m 2 b = -1 := fun z => by
                      have h4 := hops_eq hI j2
                      rw [if_pos z] at h4
                      omega
                    have hs := IM_src hI j2 hkb
                    have h4 := hops_eq hI j2
                    rw [if_neg hkb] at h4
                    refine v_aload_n C dX0_measureDepths_113 rfl ?_
                    refine v_getr C fl_X0_26 or_eS_0_3 dX0_measureDepths_114 ?_
                    refine v_iload_n C dX0_measureDepths_117 rfl ?_
                    refine v_iload C dX0_measureDepths_118 rfl ?_
                    refine v_iload C dX0_measureDepths_120 rfl ?_
                    first | refine v_isubN C dX0_measureDepths_122 (by omega) ?_ | refine v_isub C dX0_measureDepths_122 ?_
                    refine v_iast C ar_eS_3 (by decide) _ ?_ rfl dX0_measureDepths_123 ?_
                    · omega
                    refine V.stt (g2 := (sG s 3 (upd e b (nI (hopsM m b))), m)) (congrArg (fun z => (z, m)) (by rw [show hopsM m a + t - k = hopsM m b by omega]; exact sG_sG)) ?_
                    refine v_aload_n C dX0_measureDepths_124 rfl ?_
                    refine v_getr C fl_X0_12 or_eS_0_0 dX0_measureDepths_125 ?_
                    refine v_getr C fl_X0_67 or_eS_4_1 dX0_measureDepths_128 ?_
                    refine v_iload_n C dX0_measureDepths_131 rfl ?_
                    refine v_ialdQ (x := nI (src m b)) C ar_eS_6 (by decide) _ (hs.2) ?_ rfl dX0_measureDepths_132 ?_
                    · omega
                    refine v_istore_n C (lo2 := [some _, some _, some _, some _, some _, some _]) dX0_measureDepths_133 rfl (Nat.le_of_ble_eq_true rfl) rfl ?_
                    first | refine v_iinc1 C (lo2 := [some _, some _, some _, some _, some _, some _]) dX0_measureDepths_134 rfl rfl rfl ?_ | refine v_iinc C (lo2 := [some _, some _, some _, some _, some _, some _]) dX0_measureDepths_134 rfl rfl rfl rfl ?_
                    refine v_goto C 107 dX0_measureDepths_137 (by decide) ?_
                    exact ih107 (k + 1, src m b, upd e b (nI (hopsM m b))) (by show t - (k + 1) < t - k; omega) ⟨by show k + 1 ≤ t; omega, hs.1, by show k + 1 + hopsM m (src m b) = _; omega, fun q hq => by
                      show upd e b (nI (hopsM m b)) q = _ ∨ _
                      by_cases z : q = b
                      · subst z
                        exact Or.inl upd_s
                      · show upd e b (nI (hopsM m b)) q = _ ∨ (upd e b (nI (hopsM m b)) q = _ ∧ _)
                        rw [upd_o z]
                        exact j4 q hq, fun q hq => by
                      show upd e b (nI (hopsM m b)) q = _
                      by_cases z : q = b
                      · subst z
                        exact upd_s
                      · rw [upd_o z]
                        exact j5 q hq, by
                      left
                      show upd e b (nI (hopsM m b)) i = _
                      by_cases z : i = b
                      · subst z
                        exact upd_s
                      · rw [upd_o z]
                        exact j6.resolve_right (fun w => z w.2.2.symm)⟩
                exact L107 (0, i, d) ⟨Nat.zero_le _, by show i < n; omega, Nat.zero_add _, i2, i3, by
                  by_cases z : t = 0
                  · left
                    have := i7 z
                    subst this
                    exact hda
                  · right
                    exact ⟨rfl, by omega, rfl⟩⟩
              · have hs := IM_src hI i5 (fun z => by
                  rcases i2 a i5 with w | w
                  · rw [c73] at w
                    exact nI_nm1 (a := hopsM m a) (by have := hh a i5; omega) w.symm
                  · exact owb_t.mp w.2 z)
                have h4 := hops_eq hI i5
                rw [if_neg (owb_t.mp ((i2 a i5).resolve_left (fun w => by rw [c73] at w; exact nI_nm1 (a := hopsM m a) (by have := hh a i5; omega) w.symm)).2)] at h4
                refine v_aload_n C dX0_measureDepths_76 rfl ?_
                refine v_getr C fl_X0_12 or_eS_0_0 dX0_measureDepths_77 ?_
                refine v_getr C fl_X0_67 or_eS_4_1 dX0_measureDepths_80 ?_
                refine v_iload_n C dX0_measureDepths_83 rfl ?_
                refine v_ialdQ (x := nI (src m a)) C ar_eS_6 (by decide) _ (hs.2) ?_ rfl dX0_measureDepths_84 ?_
                · omega
                refine v_istore_n C (lo2 := [some _, some _, some _, some _, none, none]) dX0_measureDepths_85 rfl (Nat.le_of_ble_eq_true rfl) rfl ?_
                first | refine v_iinc1 C (lo2 := [some _, some _, some _, some _, none, none]) dX0_measureDepths_86 rfl rfl rfl ?_ | refine v_iinc C (lo2 := [some _, some _, some _, some _, none, none]) dX0_measureDepths_86 rfl rfl rfl rfl ?_
                refine v_goto C 60 dX0_measureDepths_89 (by decide) ?_
                exact ih60 (t + 1, src m a) (by show 96 - (t + 1) < 96 - t; omega) ⟨by show t + 1 ≤ 96; omega, hs.1, by show t + 1 + hopsM m (src m a) = _; omega, fun z => absurd z (Nat.succ_ne_zero t)⟩
          exact L60 (0, i) ⟨Nat.zero_le _, by show i < n; omega, Nat.zero_add _, fun _ => rfl⟩
      exact L45 (0, mix t (fun p => if m 2 p = -1 then nI 0 else -1) (s 3)) ⟨Nat.zero_le _, fun q hq => by
        have e1 : mix t (fun p => if m 2 p = -1 then nI 0 else -1) (s 3) q = (fun p => if m 2 p = -1 then nI 0 else -1) q := mix_in (by omega)
        show mix t (fun p => if m 2 p = -1 then nI 0 else -1) (s 3) q = _ ∨ (mix t (fun p => if m 2 p = -1 then nI 0 else -1) (s 3) q = _ ∧ _)
        rw [e1]
        by_cases z : m 2 q = -1
        · left
          have h4 := hops_eq hI hq
          rw [if_pos z] at h4
          rw [h4]
          exact if_pos z
        · right
          exact ⟨if_neg z, owb_t.mpr z⟩, fun q hq => absurd hq (Nat.not_lt_zero q)⟩
    · refine v_aload_n C dX0_measureDepths_13 rfl ?_
      refine v_getr C fl_X0_26 or_eS_0_3 dX0_measureDepths_14 ?_
      refine v_iload_n C dX0_measureDepths_17 rfl ?_
      refine v_aload_n C dX0_measureDepths_18 rfl ?_
      refine v_getr C fl_X0_12 or_eS_0_0 dX0_measureDepths_19 ?_
      refine v_getr C fl_X0_67 or_eS_4_1 dX0_measureDepths_22 ?_
      refine v_iload_n C dX0_measureDepths_25 rfl ?_
      refine v_ialdQ (x := m 2 t) C ar_eS_6 (by decide) _ (rfl) ?_ rfl dX0_measureDepths_26 ?_
      · omega
      refine v_iconst (v := (-1)) C dX0_measureDepths_27 (by decide) ?_
      refine v_icmp_ne C 35 dX0_measureDepths_28 (by decide) (fun c28 => ?_) (fun c28 => ?_)
      · refine v_iconst (v := (-1)) C dX0_measureDepths_35 (by decide) ?_
        refine v_iast C ar_eS_3 (by decide) _ ?_ rfl dX0_measureDepths_36 ?_
        · omega
        refine V.stt (g2 := (sG s 3 (mix (t + 1) (fun p => if m 2 p = -1 then nI 0 else -1) (s 3)), m)) (congrArg (fun z => (z, m)) (st_mix (by first | exact (if_pos c28).symm | exact (if_neg c28).symm))) ?_
        first | refine v_iinc1 C (lo2 := [some _, some _, none, none, none, none]) dX0_measureDepths_37 rfl rfl rfl ?_ | refine v_iinc C (lo2 := [some _, some _, none, none, none, none]) dX0_measureDepths_37 rfl rfl rfl rfl ?_
        refine v_goto C 2 dX0_measureDepths_40 (by decide) ?_
        exact ih2 (t + 1) (by show n - (t + 1) < n - t; omega) (by show t + 1 ≤ n; omega)
      · refine v_iconst (v := nI 0) C dX0_measureDepths_31 (by decide) ?_
        refine v_goto C 36 dX0_measureDepths_32 (by decide) ?_
        refine v_iast C ar_eS_3 (by decide) _ ?_ rfl dX0_measureDepths_36 ?_
        · omega
        refine V.stt (g2 := (sG s 3 (mix (t + 1) (fun p => if m 2 p = -1 then nI 0 else -1) (s 3)), m)) (congrArg (fun z => (z, m)) (st_mix (by first | exact (if_pos c28).symm | exact (if_neg c28).symm))) ?_
        first | refine v_iinc1 C (lo2 := [some _, some _, none, none, none, none]) dX0_measureDepths_37 rfl rfl rfl ?_ | refine v_iinc C (lo2 := [some _, some _, none, none, none, none]) dX0_measureDepths_37 rfl rfl rfl rfl ?_
        refine v_goto C 2 dX0_measureDepths_40 (by decide) ?_
        exact ih2 (t + 1) (by show n - (t + 1) < n - t; omega) (by show t + 1 ≤ n; omega)
  refine V.stt (g2 := (sG s 3 (mix 0 (fun p => if m 2 p = -1 then nI 0 else -1) (s 3)), m)) (by rw [mix_0, sG_id rfl]) ?_
  exact L2 0 (Nat.zero_le _)
