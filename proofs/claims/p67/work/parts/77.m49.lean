set_option maxHeartbeats 16000000 in
theorem c_rows6 {l : Launch} (hl : l.stackTraces = false) {κ : Kp} {g h : Nat → Nat} {n cM : Nat} {m : Mg} {e : Nat → Nat} {p : Int32} {u : Cg} {a b v : Nat} (hG : GU m u) (hW : WM n cM m) (hI : LI n m) (n1 : ¬ n = 0) (hab : a ≤ b) (hbn : b < n) : CtG SS MM l κ yL_rows cL_rows 8 (some FieldType.boolean) 17 60 200 [.ref (g 0), .ref (h 0), .int (nI a), .int (nI b), .int (nI 6), .int (nI v)] (cS κ g u ++ lmW κ h n (m, e, p)) ri (fun r w => r = nI 1 ∧ ∃ m' e' u', GU m' u' ∧ LI n m' ∧ m' 6 0 = m 6 0 ∧ w = cS κ g u' ++ lmW κ h n (m', e', p)) (fun _ _ => False) := by
  refine CtG.of (own := RL) (by decide) rfl hl (by intro v hv; simp only [List.mem_cons, List.not_mem_nil, or_false] at hv; first | (rcases hv with rfl | rfl | rfl | rfl | rfl | rfl <;> rfl) | (rcases hv with rfl | rfl | rfl | rfl | rfl <;> rfl) | (rcases hv with rfl | rfl | rfl | rfl <;> rfl) | (rcases hv with rfl | rfl | rfl <;> rfl) | (rcases hv with rfl | rfl <;> rfl) | (subst hv; rfl) | exact hv.elim) (Nat.le_of_ble_eq_true rfl) (fun X hxl hxk C F NH hnm => ?_)
  subst hxl hxk
  show V X iW 0 [some (.ref (g 0)), some (.ref (h 0)), some (.int (nI a)), some (.int (nI b)), some (.int (nI 6)), some (.int (nI v)), none, none] [] (cS (xK X) g u ++ lmW (xK X) h n (m, e, p)) 0 0
  obtain ⟨s, ⟨sT, mT⟩, rr, hh, sl, tx, L0, rfl, hH⟩ := hG
  have h14 := hI.1
  have hIM := hI.2.1.choose_spec.1.1
  have h31 : n < 2 ^ 31 := by omega
  have hE := hI.2.1.choose_spec.1.2.1
  refine v_iload C dL_rows_0 rfl ?_
  refine v_bipush (v := nI 6) C dL_rows_2 (by decide) ?_
  refine v_icmp_ne C 73 dL_rows_4 (by decide) (fun c => absurd c (by decide)) (fun c4 => ?_)
  refine v_iconst (v := nI 0) C dL_rows_7 (by decide) ?_
  refine v_istore C (lo2 := [some _, some _, some _, some _, some _, some _, some _, none]) dL_rows_8 rfl (Nat.le_of_ble_eq_true rfl) rfl ?_
  refine v_iload_n C dL_rows_10 rfl ?_
  refine v_istore C (lo2 := [some _, some _, some _, some _, some _, some _, some _, some _]) dL_rows_11 rfl (Nat.le_of_ble_eq_true rfl) rfl ?_
  have L13 : ∀ (t : Nat × Nat × Mg × (Nat → Nat)), (fun t => a ≤ t.1 ∧ t.1 ≤ b + 1 ∧ forG (fun p y => payO 2 y p) t.1 (b + 1 - t.1) t.2.2.1 = rowM a b m ∧ Pd n m t.2.2.1 ∧ t.2.1 + cntG (owb m) t.1 (b + 1 - t.1) = cntG (owb m) a (b + 1 - a) ∧ (∀ q, t.1 ≤ q → owb t.2.2.1 q = owb m q) ∧ t.2.1 ≤ t.1) t → (fun t : Nat × Nat × Mg × (Nat → Nat) => V X iW 13 [some (.ref (g 0)), some (.ref (h 0)), some (.int (nI a)), some (.int (nI b)), some (.int (nI 6)), some (.int (nI v)), some (.int (nI t.2.1)), some (.int (nI t.1))] [] (cS (xK X) g ((s, m), (sT, mT), rr, hh, sl, tx) ++ lmW (xK X) h n (t.2.2.1, t.2.2.2, p)) t.1 (3 * t.1)) t := by
    refine v_ind (fun t : Nat × Nat × Mg × (Nat → Nat) => b + 1 - t.1) ?_
    rintro ⟨j, c, y, e⟩ ih13 hI13
    try dsimp only at hI13 ⊢
    obtain ⟨i0, i1, i2, i3, i4, i5, i6⟩ := hI13
    have hIy := i3.im hIM
    have hEy := i3.1.2.2.2.2 hE
    refine v_iload C dL_rows_13 rfl ?_
    refine v_iload_n C dL_rows_15 rfl ?_
    first | refine v_icmp_gtN C 56 dL_rows_16 (by decide) (by omega) (by omega) (fun c16 => ?_) (fun c16 => ?_) | refine v_icmp_gt C 56 dL_rows_16 (by decide) (fun c16 => ?_) (fun c16 => ?_)
    · have hy : y = rowM a b m := by have z := i2; rw [show b + 1 - j = 0 by omega] at z; exact z
      have hc : c = cntG (owb m) a (b + 1 - a) := by rw [show b + 1 - j = 0 by omega] at i4; have hz : cntG (owb m) j 0 = 0 := rfl; omega
      rw [hc]
      refine v_aload_n C dL_rows_56 rfl ?_
      refine v_iload_n C dL_rows_57 rfl ?_
      refine v_iload_n C dL_rows_58 rfl ?_
      refine v_kVi (K := fun w => w ++ lmW (xK X) h n (y, e, p)) C (Cxt.r _ Cxt.id) (c_X5_payRange hl (c := cM) hW hH) ym_X5_payRange ml_L_97 fix_cS cS_0 rfl rfl rfl dL_rows_59 (by first | omega | exact Nat.le_of_ble_eq_true rfl) (by first | omega | exact Nat.le_of_ble_eq_true rfl) (by first | omega | exact Nat.le_of_ble_eq_true rfl) (Nat.le_of_ble_eq_true rfl) (fun _ _ hu => (no3 (cd_r n1 hab hbn h31) hu.1).elim) (fun r u hu => ?_)
      obtain ⟨⟨-, rfl⟩, s, ⟨sT, mT⟩, hh, rfl, hH⟩ := hu
      rw [tN_nI (by omega), tN_nI (by omega)]
      refine v_iload C dL_rows_62 rfl ?_
      refine v_icmp_ne C 71 dL_rows_64 (by decide) (fun c64 => ?_) (fun c64 => ?_)
      · exact absurd rfl c64
      · refine v_iconst (v := nI 1) C dL_rows_67 (by decide) ?_
        refine v_goto C 72 dL_rows_68 (by decide) ?_
        refine v_iretG C F (by first | rfl | exact bI_nar _) dL_rows_72 (by first | omega | exact Nat.le_of_ble_eq_true rfl) (by first | omega | exact Nat.le_of_ble_eq_true rfl) rfl (List.Perm.refl _) ?_
        exact ⟨rfl, y, e, _, ⟨s, (sT, mT), rr, hh, sl, tx, _, by rw [hy], hH⟩, hI.pd i3, i3.1.2.2.2.1, rfl⟩
    · have hjn : j < n := by omega
      have hjb : j < b + 1 := by omega
      rw [forG_s hjb] at i2
      rw [cntG_s hjb] at i4
      refine v_aload_n C dL_rows_19 rfl ?_
      refine v_gFN (K := fun w => cS (xK X) g ((s, m), (sT, mT), rr, hh, sl, tx) ++ w) C (Cxt.l _ Cxt.id) (v := .ref (h 1)) 0 fln_L_154 lm_0 rfl dL_rows_20 ?_
      refine v_iload C dL_rows_23 rfl ?_
      refine v_gP (K := fun w => cS (xK X) g ((s, m), (sT, mT), rr, hh, sl, tx) ++ w) C (Cxt.l _ Cxt.id) (x := (some (h (8 + j)))) 1 lm_1 (by first | decide | omega) j (if_pos (by omega)) ?_ rfl dL_rows_25 ?_
      · omega
      refine v_gFN (K := fun w => cS (xK X) g ((s, m), (sT, mT), rr, hh, sl, tx) ++ w) C (Cxt.l _ Cxt.id) (v := va_rf (srcV h y j)) (5 + j) fln_L_190 (plc_at hjn) rfl dL_rows_26 ?_
      refine v_ifnonnull C (x := (srcV h y j)) 35 dL_rows_29 (by decide) (fun a29 c29 => ?_) (fun c29 => ?_)
      · have ho : owb y j = true := owb_t.mpr (srcV_yes c29).1
        have hom : owb m j = true := (i5 j (Nat.le_refl _)) ▸ ho
        rw [payO_t ho] at i2
        rw [hom, if_pos rfl] at i4
        refine v_aload_n C dL_rows_35 rfl ?_
        refine v_aload_n C dL_rows_36 rfl ?_
        refine v_gFN (K := fun w => cS (xK X) g ((s, m), (sT, mT), rr, hh, sl, tx) ++ w) C (Cxt.l _ Cxt.id) (v := .ref (h 1)) 0 fln_L_154 lm_0 rfl dL_rows_37 ?_
        refine v_iload C dL_rows_40 rfl ?_
        refine v_gP (K := fun w => cS (xK X) g ((s, m), (sT, mT), rr, hh, sl, tx) ++ w) C (Cxt.l _ Cxt.id) (x := (some (h (8 + j)))) 1 lm_1 (by first | decide | omega) j (if_pos (by omega)) ?_ rfl dL_rows_42 ?_
        · omega
        refine v_iconst (v := nI 2) C dL_rows_43 (by decide) ?_
        refine v_gVv (K := fun w => cS (xK X) g ((s, m), (sT, mT), rr, hh, sl, tx) ++ w) C (Cxt.l _ Cxt.id) 0 (c_X7_pay hl hIy h14 hEy (Or.inr (Or.inl rfl)) hjn) ym_X7_pay ml_L_251 lm_0 rfl rfl rfl dL_rows_44 (by first | omega | exact Nat.le_of_ble_eq_true rfl) (by first | omega | exact Nat.le_of_ble_eq_true rfl) (by first | omega | exact Nat.le_of_ble_eq_true rfl) (Nat.le_of_ble_eq_true rfl) (fun _ _ hu => hu.elim) (fun r u hu => ?_)
        obtain ⟨e1, rfl⟩ := hu
        first | refine v_iinc1 C (lo2 := [some _, some _, some _, some _, some _, some _, some _, some _]) dL_rows_47 rfl rfl rfl ?_ | refine v_iinc C (lo2 := [some _, some _, some _, some _, some _, some _, some _, some _]) dL_rows_47 rfl rfl rfl rfl ?_
        first | refine v_iinc1 C (lo2 := [some _, some _, some _, some _, some _, some _, some _, some _]) dL_rows_50 rfl rfl rfl ?_ | refine v_iinc C (lo2 := [some _, some _, some _, some _, some _, some _, some _, some _]) dL_rows_50 rfl rfl rfl rfl ?_
        refine v_goto C 13 dL_rows_53 (by decide) ?_
        have hz : owb y j = true := ho
        refine V.wid (k2 := j + 1) (n2 := 3 * (j + 1)) (by omega) (by omega) ?_
        exact ih13 (j + 1, c + 1, payM 2 y j, e1) (by show b + 1 - (j + 1) < b + 1 - j; omega) ⟨by show a ≤ j + 1; omega, by show j + 1 ≤ b + 1; omega, i2, i3.trans hIM (payM_Pd (k := 2) (m := y) (p := j) hjn), by show c + 1 + cntG (owb m) (j + 1) (b + 1 - (j + 1)) = cntG (owb m) a (b + 1 - a); omega, fun q hq => (owb_payN (k := 2) (p := j) (m := y) (by have hq2 : j + 1 ≤ q := hq; omega)).trans (i5 q (by have hq2 : j + 1 ≤ q := hq; omega)), by show c + 1 ≤ j + 1; omega⟩
      · have ho : owb y j = false := owb_f.mpr (srcV_no.mp c29)
        have hom : owb m j = false := (i5 j (Nat.le_refl _)) ▸ ho
        rw [payO_f ho] at i2
        rw [hom, if_neg Bool.false_ne_true] at i4
        refine v_goto C 50 dL_rows_32 (by decide) ?_
        first | refine v_iinc1 C (lo2 := [some _, some _, some _, some _, some _, some _, some _, some _]) dL_rows_50 rfl rfl rfl ?_ | refine v_iinc C (lo2 := [some _, some _, some _, some _, some _, some _, some _, some _]) dL_rows_50 rfl rfl rfl rfl ?_
        refine v_goto C 13 dL_rows_53 (by decide) ?_
        have hz : owb y j = false := ho
        refine V.wid (k2 := j + 1) (n2 := 3 * (j + 1)) (by omega) (by omega) ?_
        exact ih13 (j + 1, c, y, e) (by show b + 1 - (j + 1) < b + 1 - j; omega) ⟨by show a ≤ j + 1; omega, by show j + 1 ≤ b + 1; omega, i2, i3, by show c + cntG (owb m) (j + 1) (b + 1 - (j + 1)) = cntG (owb m) a (b + 1 - a); omega, fun q hq => i5 q (by have hq2 : j + 1 ≤ q := hq; omega), by show c ≤ j + 1; omega⟩
  refine V.wid (k2 := a) (n2 := 3 * a) (by omega) (by omega) ?_
  exact L13 (a, 0, m, e) ⟨Nat.le_refl _, by show a ≤ b + 1; omega, rfl, Pd.rfl, Nat.zero_add _, fun _ _ => rfl, Nat.zero_le _⟩
set_option maxHeartbeats 16000000 in
theorem c_rows7 {l : Launch} (hl : l.stackTraces = false) {κ : Kp} {g h : Nat → Nat} {n cM : Nat} {m : Mg} {e : Nat → Nat} {p : Int32} {u : Cg} {a b v : Nat} (hG : GU m u) (hW : WM n cM m) (hI : LI n m) (n1 : ¬ n = 0) (hab : a ≤ b) (hbn : b < n) (hv : v < 256) : CtG SS MM l κ yL_rows cL_rows 8 (some FieldType.boolean) 19 60 200 [.ref (g 0), .ref (h 0), .int (nI a), .int (nI b), .int (nI 7), .int (nI v)] (cS κ g u ++ lmW κ h n (m, e, p)) ri (fun r w => r = nI 1 ∧ ∃ m' e' u', GU m' u' ∧ LI n m' ∧ m' 6 0 = m 6 0 ∧ w = cS κ g u' ++ lmW κ h n (m', e', p)) (fun _ _ => False) := by
  refine CtG.of (own := RL) (by decide) rfl hl (by intro v hv; simp only [List.mem_cons, List.not_mem_nil, or_false] at hv; first | (rcases hv with rfl | rfl | rfl | rfl | rfl | rfl <;> rfl) | (rcases hv with rfl | rfl | rfl | rfl | rfl <;> rfl) | (rcases hv with rfl | rfl | rfl | rfl <;> rfl) | (rcases hv with rfl | rfl | rfl <;> rfl) | (rcases hv with rfl | rfl <;> rfl) | (subst hv; rfl) | exact hv.elim) (Nat.le_of_ble_eq_true rfl) (fun X hxl hxk C F NH hnm => ?_)
  subst hxl hxk
  show V X iW 0 [some (.ref (g 0)), some (.ref (h 0)), some (.int (nI a)), some (.int (nI b)), some (.int (nI 7)), some (.int (nI v)), none, none] [] (cS (xK X) g u ++ lmW (xK X) h n (m, e, p)) 0 0
  obtain ⟨s, ⟨sT, mT⟩, rr, hh, sl, tx, L0, rfl, hH⟩ := hG
  have h14 := hI.1
  have hIM := hI.2.1.choose_spec.1.1
  have h31 : n < 2 ^ 31 := by omega
  have hE := hI.2.1.choose_spec.1.2.1
  refine v_iload C dL_rows_0 rfl ?_
  refine v_bipush (v := nI 6) C dL_rows_2 (by decide) ?_
  refine v_icmp_ne C 73 dL_rows_4 (by decide) (fun c4 => ?_) (fun c => absurd c (by decide))
  refine v_aload_n C dL_rows_73 rfl ?_
  refine v_iload_n C dL_rows_74 rfl ?_
  refine v_iload_n C dL_rows_75 rfl ?_
  refine v_gVi (K := fun w => cS (xK X) g ((s, m), (sT, mT), rr, hh, sl, tx) ++ w) C (Cxt.l _ Cxt.id) 0 (c_X7_isLocked hl (a := a) (c := b + 1) (by omega) (by rw [nI_toInt (by omega)]; omega) (by omega) h14 hI.lk) ym_X7_isLocked ml_L_265 lm_0 rfl rfl rfl dL_rows_76 (by first | omega | exact Nat.le_of_ble_eq_true rfl) (by first | omega | exact Nat.le_of_ble_eq_true rfl) (by first | omega | exact Nat.le_of_ble_eq_true rfl) (Nat.le_of_ble_eq_true rfl) (fun _ _ hu => hu.elim) (fun r u hu => ?_)
  obtain ⟨rfl, rfl⟩ := hu
  refine v_if_eqB C 102 dL_rows_79 (by decide) (fun c79 => ?_) (fun c79 => ?_)
  · refine v_aload_n C dL_rows_102 rfl ?_
    refine v_iload_n C dL_rows_103 rfl ?_
    refine v_iload_n C dL_rows_104 rfl ?_
    refine v_iload C dL_rows_105 rfl ?_
    refine v_kVi (K := fun w => w ++ lmW (xK X) h n (m, e, p)) C (Cxt.r _ Cxt.id) (c_X5_fill hl (c := cM) hW hH) ym_X5_fill ml_L_88 fix_cS cS_0 rfl rfl rfl dL_rows_107 (by first | omega | exact Nat.le_of_ble_eq_true rfl) (by first | omega | exact Nat.le_of_ble_eq_true rfl) (by first | omega | exact Nat.le_of_ble_eq_true rfl) (Nat.le_of_ble_eq_true rfl) (fun _ _ hu => (no3 (cd_Ff n1 hab hbn h31 hv c79) hu.1).elim) (fun r u hu => ?_)
    obtain ⟨⟨-, rfl⟩, s, ⟨sT, mT⟩, hh, rfl, hH⟩ := hu
    rw [tN_nI (by omega), tN_nI (by omega)]
    refine v_aload_n C dL_rows_110 rfl ?_
    refine v_iload_n C dL_rows_111 rfl ?_
    refine v_iload_n C dL_rows_112 rfl ?_
    refine v_iload C dL_rows_113 rfl ?_
    refine v_gVi (K := fun w => cS (xK X) g ((s, (fillM n a b (nI v) m).2), (sT, mT), rr, hh, sl, tx) ++ w) C (Cxt.l _ Cxt.id) 0 (c_X7_fill hl hIM h14 hE (a := a) (c := b + 1) (by omega) (by omega) (by rw [nI_toInt (by omega)]; omega)) ym_X7_fill ml_L_239 lm_0 rfl rfl rfl dL_rows_115 (by first | omega | exact Nat.le_of_ble_eq_true rfl) (by first | omega | exact Nat.le_of_ble_eq_true rfl) (by first | omega | exact Nat.le_of_ble_eq_true rfl) (Nat.le_of_ble_eq_true rfl) (fun _ _ hu => hu.elim) (fun r u hu => ?_)
    obtain ⟨rfl, e1, rfl⟩ := hu
    rw [fillL_eq (by omega) (by omega)]
    refine v_icmp_ne C 125 dL_rows_118 (by decide) (fun c118 => ?_) (fun c118 => ?_)
    · exact absurd rfl c118
    · refine v_iconst (v := nI 1) C dL_rows_121 (by decide) ?_
      refine v_goto C 126 dL_rows_122 (by decide) ?_
      refine v_iretG C F (by first | rfl | exact bI_nar _) dL_rows_126 (by first | omega | exact Nat.le_of_ble_eq_true rfl) (by first | omega | exact Nat.le_of_ble_eq_true rfl) rfl (List.Perm.refl _) ?_
      exact ⟨rfl, (fillM n a b (nI v) m).2, _, _, ⟨s, (sT, mT), rr, hh, sl, tx, _, rfl, hH⟩, hI.fill hv, (fill_5 hIM).2, rfl⟩
  · refine v_aload_n C dL_rows_82 rfl ?_
    refine v_bipush (v := nI 17) C dL_rows_83 (by decide) ?_
    refine v_iload_n C dL_rows_85 rfl ?_
    refine v_iload_n C dL_rows_86 rfl ?_
    refine v_iload C dL_rows_87 rfl ?_
    refine v_gSHi (K := fun w => w ++ lmW (xK X) h n (m, e, p)) C (Cxt.r _ Cxt.id) (c_thrown hl (Nat.le_of_ble_eq_true rfl) (Nat.le_of_ble_eq_true rfl) (c_calls_17 (b := _) (c := _) hl (by decide) (c_X5_fill hl hW hH)) (fun _ _ hu => by
        obtain ⟨_, _, hz, _⟩ := hu
        have hy := hz.1.1
        rw [(cd_Ft n1 hab hbn h31 hv c79)] at hy
        exact absurd hy (by decide)) (fun _ _ hp => ts_E hp.1)) ysh_L_thrown ml_L_226 rfl rfl dL_rows_89 (Nat.le_of_ble_eq_true rfl) (by first | omega | exact Nat.le_of_ble_eq_true rfl) (by first | omega | exact Nat.le_of_ble_eq_true rfl) (Nat.le_of_ble_eq_true rfl) (fun _ _ hu => hu.elim) (fun r u hu => ?_)
    obtain ⟨e9, u9, hp, rfl, rfl⟩ := hu
    rw [show exN e9 = 3 from ex_3 ((cd_Ft n1 hab hbn h31 hv c79)) hp.1]
    obtain ⟨s, ⟨sT, mT⟩, rfl⟩ := hp.2
    refine v_iconst (v := nI 3) C dL_rows_92 (by decide) ?_
    refine v_icmp_ne C 100 dL_rows_93 (by decide) (fun c => absurd c (by decide)) (fun c93 => ?_)
    refine v_iconst (v := nI 1) C dL_rows_96 (by decide) ?_
    refine v_goto C 101 dL_rows_97 (by decide) ?_
    refine v_iretG C F (by first | rfl | exact bI_nar _) dL_rows_101 (by first | omega | exact Nat.le_of_ble_eq_true rfl) (by first | omega | exact Nat.le_of_ble_eq_true rfl) rfl (List.Perm.refl _) ?_
    exact ⟨rfl, m, _, _, ⟨s, (sT, mT), rr, hh, sl, tx, _, rfl, hH⟩, hI, rfl, rfl⟩
