set_option maxHeartbeats 2000000 in
theorem c_L_values {l : Launch} (hl : l.stackTraces = false) {κ : Kp} {g h : Nat → Nat} {n cM : Nat} {m : Mg} {e : Nat → Nat} {u : Cg} {b i : Nat} (hG : GU m u) (hW : WM n cM m) (hI : LI n m) (n1 : ¬ n = 0) (hk6 : ∃ j, j < 1000 ∧ m 6 0 = nI j) (h31 : κ.2.2.2 999 < 2 ^ 20) (hi0 : i < 2000) : CtG SS MM l κ yL_values cL_values 25 (some FieldType.boolean) 17 5000 70000 [.ref (g 0), .ref (h 0), .ref b] (cS κ g u ++ (lmW κ h n (m, e, m 6 0) ++ dS κ b i)) ri (fun r w => r = nI 1 ∧ ∃ u' i', GU m u' ∧ i' ≤ i + 10 ∧ w = cS κ g u' ++ (lmW κ h n (m, e, m 6 0) ++ dS κ b i')) (fun _ _ => False) := by
  refine CtG.of (own := RL) (by decide) rfl hl (by intro v hv; simp only [List.mem_cons, List.not_mem_nil, or_false] at hv; first | (rcases hv with rfl | rfl | rfl | rfl | rfl | rfl <;> rfl) | (rcases hv with rfl | rfl | rfl | rfl | rfl <;> rfl) | (rcases hv with rfl | rfl | rfl | rfl <;> rfl) | (rcases hv with rfl | rfl | rfl <;> rfl) | (rcases hv with rfl | rfl <;> rfl) | (subst hv; rfl) | exact hv.elim) (Nat.le_of_ble_eq_true rfl) (fun X hxl hxk C F NH hnm => ?_)
  subst hxl hxk
  show V X iW 0 [some (.ref (g 0)), some (.ref (h 0)), some (.ref b), none, none, none, none, none, none, none, none, none, none, none, none, none, none, none, none, none, none, none, none, none, none] [] (cS (xK X) g u ++ (lmW (xK X) h n (m, e, m 6 0) ++ dS (xK X) b i)) 0 0
  obtain ⟨s, ⟨sT, mT⟩, rr, hh, sl, tx, L0, rfl, hH⟩ := hG
  have h14 := hI.1
  have hIM := hI.im
  have hE := hI.ev
  have hset := hI.set
  have hn31 : n < 2 ^ 31 := by omega
  have hn96 : n ≤ 96 := by omega
  refine v_aload_n C dL_values_0 rfl ?_
  refine v_gFN (K := fun w => cS (xK X) g ((s, m), (sT, mT), rr, hh, sl, tx) ++ (w ++ dS (xK X) b (i))) C (Cxt.l _ (Cxt.r _ Cxt.id)) (v := .ref (h 1)) 0 fln_L_154 lm_0 rfl dL_values_1 ?_
  refine v_lenA (K := fun w => cS (xK X) g ((s, m), (sT, mT), rr, hh, sl, tx) ++ (w ++ dS (xK X) b (i))) C (Cxt.l _ (Cxt.r _ Cxt.id)) (N := n) 3 1 rfl lm_1 rfl dL_values_4 ?_
  refine v_istore_n C (lo2 := [some _, some _, some _, some _, none, none, none, none, none, none, none, none, none, none, none, none, none, none, none, none, none, none, none, none, none]) dL_values_5 rfl (Nat.le_of_ble_eq_true rfl) rfl ?_
  refine v_aload_n C dL_values_6 rfl ?_
  refine v_iconst (v := nI 0) C dL_values_7 (by decide) ?_
  refine v_iload_n C dL_values_8 rfl ?_
  refine v_iconst (v := nI 1) C dL_values_9 (by decide) ?_
  first | refine v_isubN C dL_values_10 (by omega) ?_ | refine v_isub C dL_values_10 ?_
  refine v_gVi (K := fun w => cS (xK X) g ((s, m), (sT, mT), rr, hh, sl, tx) ++ (lmW (xK X) h n (m, e, m 6 0) ++ w)) C (Cxt.l _ (Cxt.l _ Cxt.id)) 0 (c_X6_next hl (i := i) (lo := 0) (hi := (n - 1)) (by omega) (by omega) (by omega) h31) ym_X6_next ml_L_217 rfl rfl rfl rfl dL_values_11 (by first | omega | exact Nat.le_of_ble_eq_true rfl) (by first | omega | exact Nat.le_of_ble_eq_true rfl) (by first | omega | exact Nat.le_of_ble_eq_true rfl) (Nat.le_of_ble_eq_true rfl) (fun _ _ hu => hu.elim) (fun r u hu => ?_)
  obtain ⟨rfl, rfl⟩ := hu
  have hba := drw_in (κ := (xK X)) (i := i) (a := 0) (b := (n - 1)) (by omega)
  generalize drw (xK X) (i) (0) ((n - 1)) = a at hba ⊢
  have han : a < n := by omega
  refine v_istore C (lo2 := [some _, some _, some _, some _, some _, none, none, none, none, none, none, none, none, none, none, none, none, none, none, none, none, none, none, none, none]) dL_values_14 rfl (Nat.le_of_ble_eq_true rfl) rfl ?_
  refine v_aload_n C dL_values_16 rfl ?_
  refine v_iload C dL_values_17 rfl ?_
  refine v_iload_n C dL_values_19 rfl ?_
  refine v_iconst (v := nI 1) C dL_values_20 (by decide) ?_
  first | refine v_isubN C dL_values_21 (by omega) ?_ | refine v_isub C dL_values_21 ?_
  refine v_gVi (K := fun w => cS (xK X) g ((s, m), (sT, mT), rr, hh, sl, tx) ++ (lmW (xK X) h n (m, e, m 6 0) ++ w)) C (Cxt.l _ (Cxt.l _ Cxt.id)) 0 (c_X6_next hl (i := i + 1) (lo := a) (hi := (n - 1)) (by omega) (by omega) (by omega) h31) ym_X6_next ml_L_217 rfl rfl rfl rfl dL_values_22 (by first | omega | exact Nat.le_of_ble_eq_true rfl) (by first | omega | exact Nat.le_of_ble_eq_true rfl) (by first | omega | exact Nat.le_of_ble_eq_true rfl) (Nat.le_of_ble_eq_true rfl) (fun _ _ hu => hu.elim) (fun r u hu => ?_)
  obtain ⟨rfl, rfl⟩ := hu
  have hbc := drw_in (κ := (xK X)) (i := i + 1) (a := a) (b := (n - 1)) (by omega)
  generalize drw (xK X) (i + 1) (a) ((n - 1)) = c at hbc ⊢
  have hcn : a ≤ c ∧ c < n := by omega
  refine v_istore C (lo2 := [some _, some _, some _, some _, some _, some _, none, none, none, none, none, none, none, none, none, none, none, none, none, none, none, none, none, none, none]) dL_values_25 rfl (Nat.le_of_ble_eq_true rfl) rfl ?_
  refine v_iconst (v := nI 0) C dL_values_27 (by decide) ?_
  refine v_istore C (lo2 := [some _, some _, some _, some _, some _, some _, some _, none, none, none, none, none, none, none, none, none, none, none, none, none, none, none, none, none, none]) dL_values_28 rfl (Nat.le_of_ble_eq_true rfl) rfl ?_
  refine v_aload_n C dL_values_30 rfl ?_
  refine v_iconst (v := nI 0) C dL_values_31 (by decide) ?_
  refine v_sipush (v := nI 255) C dL_values_32 (by decide) ?_
  refine v_gVi (K := fun w => cS (xK X) g ((s, m), (sT, mT), rr, hh, sl, tx) ++ (lmW (xK X) h n (m, e, m 6 0) ++ w)) C (Cxt.l _ (Cxt.l _ Cxt.id)) 0 (c_X6_next hl (i := i + 1 + 1) (lo := 0) (hi := 255) (by omega) (by omega) (by omega) h31) ym_X6_next ml_L_217 rfl rfl rfl rfl dL_values_35 (by first | omega | exact Nat.le_of_ble_eq_true rfl) (by first | omega | exact Nat.le_of_ble_eq_true rfl) (by first | omega | exact Nat.le_of_ble_eq_true rfl) (Nat.le_of_ble_eq_true rfl) (fun _ _ hu => hu.elim) (fun r u hu => ?_)
  obtain ⟨rfl, rfl⟩ := hu
  have hbv := drw_in (κ := (xK X)) (i := i + 1 + 1) (a := 0) (b := 255) (by omega)
  generalize drw (xK X) (i + 1 + 1) (0) (255) = v at hbv ⊢
  refine v_istore C (lo2 := [some _, some _, some _, some _, some _, some _, some _, some _, none, none, none, none, none, none, none, none, none, none, none, none, none, none, none, none, none]) dL_values_38 rfl (Nat.le_of_ble_eq_true rfl) rfl ?_
  refine v_aload_n C dL_values_40 rfl ?_
  refine v_iconst (v := nI 0) C dL_values_41 (by decide) ?_
  refine v_iload_n C dL_values_42 rfl ?_
  refine v_iconst (v := nI 1) C dL_values_43 (by decide) ?_
  first | refine v_isubN C dL_values_44 (by omega) ?_ | refine v_isub C dL_values_44 ?_
  refine v_gVi (K := fun w => cS (xK X) g ((s, m), (sT, mT), rr, hh, sl, tx) ++ (lmW (xK X) h n (m, e, m 6 0) ++ w)) C (Cxt.l _ (Cxt.l _ Cxt.id)) 0 (c_X6_next hl (i := i + 1 + 1 + 1) (lo := 0) (hi := (n - 1)) (by omega) (by omega) (by omega) h31) ym_X6_next ml_L_217 rfl rfl rfl rfl dL_values_45 (by first | omega | exact Nat.le_of_ble_eq_true rfl) (by first | omega | exact Nat.le_of_ble_eq_true rfl) (by first | omega | exact Nat.le_of_ble_eq_true rfl) (Nat.le_of_ble_eq_true rfl) (fun _ _ hu => hu.elim) (fun r u hu => ?_)
  obtain ⟨rfl, rfl⟩ := hu
  have hbQ := drw_in (κ := (xK X)) (i := i + 1 + 1 + 1) (a := 0) (b := (n - 1)) (by omega)
  generalize drw (xK X) (i + 1 + 1 + 1) (0) ((n - 1)) = Q at hbQ ⊢
  have hQn : Q < n := by omega
  refine v_istore C (lo2 := [some _, some _, some _, some _, some _, some _, some _, some _, some _, none, none, none, none, none, none, none, none, none, none, none, none, none, none, none, none]) dL_values_48 rfl (Nat.le_of_ble_eq_true rfl) rfl ?_
  refine v_iconst (v := (-1)) C dL_values_50 (by decide) ?_
  refine v_istore C (lo2 := [some _, some _, some _, some _, some _, some _, some _, some _, some _, some _, none, none, none, none, none, none, none, none, none, none, none, none, none, none, none]) dL_values_51 rfl (Nat.le_of_ble_eq_true rfl) rfl ?_
  refine v_ldc2 (v := 17) C (TT_t 1393 (by decide +kernel) (by decide +kernel)) dL_values_53 ?_
  refine v_lstore C (lo2 := [some _, some _, some _, some _, some _, some _, some _, some _, some _, some _, some _, none, none, none, none, none, none, none, none, none, none, none, none, none, none]) dL_values_56 rfl (Nat.le_of_ble_eq_true rfl) rfl ?_
  refine v_aload_n C dL_values_58 rfl ?_
  refine v_gFN (K := fun w => cS (xK X) g ((s, m), (sT, mT), rr, hh, sl, tx) ++ (w ++ dS (xK X) b (i + 1 + 1 + 1 + 1))) C (Cxt.l _ (Cxt.r _ Cxt.id)) (v := .ref (h 1)) 0 fln_L_154 lm_0 rfl dL_values_59 ?_
  refine v_astore C (lo2 := [some _, some _, some _, some _, some _, some _, some _, some _, some _, some _, some _, none, some _, none, none, none, none, none, none, none, none, none, none, none, none]) dL_values_62 rfl (Nat.le_of_ble_eq_true rfl) rfl ?_
  refine v_aload C dL_values_64 rfl ?_
  refine v_lenA (K := fun w => cS (xK X) g ((s, m), (sT, mT), rr, hh, sl, tx) ++ (w ++ dS (xK X) b (i + 1 + 1 + 1 + 1))) C (Cxt.l _ (Cxt.r _ Cxt.id)) (N := n) 3 1 rfl lm_1 rfl dL_values_66 ?_
  refine v_istore C (lo2 := [some _, some _, some _, some _, some _, some _, some _, some _, some _, some _, some _, none, some _, some _, none, none, none, none, none, none, none, none, none, none, none]) dL_values_67 rfl (Nat.le_of_ble_eq_true rfl) rfl ?_
  refine v_iconst (v := nI 0) C dL_values_69 (by decide) ?_
  refine v_istore C (lo2 := [some _, some _, some _, some _, some _, some _, some _, some _, some _, some _, some _, none, some _, some _, some _, none, none, none, none, none, none, none, none, none, none]) dL_values_70 rfl (Nat.le_of_ble_eq_true rfl) rfl ?_
  have L72 : ∀ (t : Nat × Int64), (fun t => t.1 ≤ n ∧ forG (fun p (x : Int64) => x * 31 + (valM m p).toInt64) t.1 (n - t.1) t.2 = chkV m n) t → (fun t : Nat × Int64 => V X iW 72 [some (.ref (g 0)), some (.ref (h 0)), some (.ref b), some (.int (nI n)), some (.int (nI a)), some (.int (nI c)), some (.int (nI 0)), some (.int (nI v)), some (.int (nI Q)), some (.int (-1)), some (.long t.2), none, some (.ref (h 1)), some (.int (nI n)), some (.int (nI t.1)), none, none, none, none, none, none, none, none, none, none] [] (cS (xK X) g ((s, m), (sT, mT), rr, hh, sl, tx) ++ (lmW (xK X) h n (m, e, m 6 0) ++ dS (xK X) b (i + 1 + 1 + 1 + 1))) 0 0) t := by
    refine v_ind (fun t : Nat × Int64 => n - t.1) ?_
    rintro ⟨j, x⟩ ih72 hI72
    try dsimp only at hI72 ⊢
    obtain ⟨i1, i2⟩ := hI72
    refine v_iload C dL_values_72 rfl ?_
    refine v_iload C dL_values_74 rfl ?_
    first | refine v_icmp_geN C 107 dL_values_76 (by decide) (by omega) (by omega) (fun c76 => ?_) (fun c76 => ?_) | refine v_icmp_ge C 107 dL_values_76 (by decide) (fun c76 => ?_) (fun c76 => ?_)
    · have hx : x = chkV m n := by rw [show n - j = 0 by omega] at i2; exact i2
      refine v_iload C dL_values_107 rfl ?_
      refine v_istore C (lo2 := [some _, some _, some _, some _, some _, some _, some _, some _, some _, some _, some _, none, some _, some _, some _, none, none, none, none, none, none, none, none, none, none]) dL_values_109 rfl (Nat.le_of_ble_eq_true rfl) rfl ?_
      have L111 : ∀ (t : Nat × Int32), (fun t => a ≤ t.1 ∧ t.1 ≤ c + 1 ∧ forG (fun p (x : Int32) => x + valM m p) t.1 (c + 1 - t.1) t.2 = sumV m a (c + 1 - a)) t → (fun t : Nat × Int32 => V X iW 111 [some (.ref (g 0)), some (.ref (h 0)), some (.ref b), some (.int (nI n)), some (.int (nI a)), some (.int (nI c)), some (.int t.2), some (.int (nI v)), some (.int (nI Q)), some (.int (-1)), some (.long x), none, some (.int (nI t.1)), some (.int (nI n)), none, none, none, none, none, none, none, none, none, none, none] [] (cS (xK X) g ((s, m), (sT, mT), rr, hh, sl, tx) ++ (lmW (xK X) h n (m, e, m 6 0) ++ dS (xK X) b (i + 1 + 1 + 1 + 1))) 0 0) t := by
        refine v_ind (fun t : Nat × Int32 => c + 1 - t.1) ?_
        rintro ⟨q, y⟩ ih111 hI111
        try dsimp only at hI111 ⊢
        obtain ⟨k1, k2, k3⟩ := hI111
        refine v_iload C dL_values_111 rfl ?_
        refine v_iload C dL_values_113 rfl ?_
        first | refine v_icmp_gtN C 139 dL_values_115 (by decide) (by omega) (by omega) (fun c115 => ?_) (fun c115 => ?_) | refine v_icmp_gt C 139 dL_values_115 (by decide) (fun c115 => ?_) (fun c115 => ?_)
        · have hy : y = sumV m a (c + 1 - a) := by rw [show c + 1 - q = 0 by omega] at k3; exact k3
          refine v_iload_n C dL_values_139 rfl ?_
          refine v_iconst (v := nI 1) C dL_values_140 (by decide) ?_
          refine v_isub C dL_values_141 ?_
          refine v_istore C (lo2 := [some _, some _, some _, some _, some _, some _, some _, some _, some _, some _, some _, none, some _, some _, none, none, none, none, none, none, none, none, none, none, none]) dL_values_142 rfl (Nat.le_of_ble_eq_true rfl) rfl ?_
          have L144 : ∀ (z : Nat × Int32), (fun z => a ≤ z.1 ∧ z.1 ≤ n ∧ z.2 = oN (fstG (vlB m (nI v)) z.1 (n - z.1))) z → (fun z : Nat × Int32 => V X iW 144 [some (.ref (g 0)), some (.ref (h 0)), some (.ref b), some (.int (nI n)), some (.int (nI a)), some (.int (nI c)), some (.int y), some (.int (nI v)), some (.int (nI Q)), some (.int z.2), some (.long x), none, some (.int (nI z.1 - nI 1)), none, none, none, none, none, none, none, none, none, none, none, none] [] (cS (xK X) g ((s, m), (sT, mT), rr, hh, sl, tx) ++ (lmW (xK X) h n (m, e, m 6 0) ++ dS (xK X) b (i + 1 + 1 + 1 + 1))) 0 0) z := by
            refine v_ind (fun z : Nat × Int32 => z.1) ?_
            rintro ⟨t, f⟩ ih144 hI144
            try dsimp only at hI144 ⊢
            obtain ⟨f1, f2, f3⟩ := hI144
            refine v_iload C dL_values_144 rfl ?_
            refine v_iload C dL_values_146 rfl ?_
            refine v_icmp_lt C 181 dL_values_148 (by decide) (fun c148 => ?_) (fun c148 => ?_)
            · have hta : t ≤ a := by rw [nI_sub_toInt (by omega) (by omega), nI_toInt (by omega)] at c148; omega
              have hf : f = oN (fstG (vlB m (nI v)) a (n - a)) := by rw [f3, show t = a by omega]
              rw [hx, hy]
              refine v_aload_n C dL_values_181 rfl ?_
              refine v_kVl (K := fun w => w ++ (lmW (xK X) h n (m, e, m 6 0) ++ dS (xK X) b (i + 1 + 1 + 1 + 1))) C (Cxt.r _ Cxt.id) (c_X5_checksum hl (c := cM) hW) ym_X5_checksum ml_L_313 fix_cS cS_0 rfl rfl rfl dL_values_182 (by first | omega | exact Nat.le_of_ble_eq_true rfl) (by first | omega | exact Nat.le_of_ble_eq_true rfl) (by first | omega | exact Nat.le_of_ble_eq_true rfl) (Nat.le_of_ble_eq_true rfl) (fun _ _ hu => (noU (cd_0 n1) hu.1).elim) (fun r u hu => ?_)
              obtain ⟨⟨-, rfl⟩, s, ⟨sT, mT⟩, rfl⟩ := hu
              refine v_lload C dL_values_185 rfl ?_
              refine v_lcmp C dL_values_187 ?_
              refine v_if_ne C 217 dL_values_188 (by decide) (fun c188 => ?_) (fun c188 => ?_)
              · exact absurd (lcmp_same _) c188
              · refine v_aload_n C dL_values_191 rfl ?_
                refine v_iload C dL_values_192 rfl ?_
                refine v_iload C dL_values_194 rfl ?_
                refine v_kVi (K := fun w => w ++ (lmW (xK X) h n (m, e, m 6 0) ++ dS (xK X) b (i + 1 + 1 + 1 + 1))) C (Cxt.r _ Cxt.id) (c_X5_sum hl (c := cM) hW) ym_X5_sum ml_L_47 fix_cS cS_0 rfl rfl rfl dL_values_196 (by first | omega | exact Nat.le_of_ble_eq_true rfl) (by first | omega | exact Nat.le_of_ble_eq_true rfl) (by first | omega | exact Nat.le_of_ble_eq_true rfl) (Nat.le_of_ble_eq_true rfl) (fun _ _ hu => (no3 (cd_r n1 hcn.1 hcn.2 hn31) hu.1).elim) (fun r u hu => ?_)
                obtain ⟨⟨-, rfl⟩, s, ⟨sT, mT⟩, rfl⟩ := hu
                rw [tN_nI (show a < 2 ^ 31 by omega), tN_nI (show c < 2 ^ 31 by omega)]
                refine v_iload C dL_values_199 rfl ?_
                refine v_icmp_ne C 217 dL_values_201 (by decide) (fun c201 => ?_) (fun c201 => ?_)
                · exact absurd rfl c201
                · refine v_aload_n C dL_values_204 rfl ?_
                  refine v_iload C dL_values_205 rfl ?_
                  refine v_iload C dL_values_207 rfl ?_
                  refine v_kVi (K := fun w => w ++ (lmW (xK X) h n (m, e, m 6 0) ++ dS (xK X) b (i + 1 + 1 + 1 + 1))) C (Cxt.r _ Cxt.id) (c_X5_find hl (c := cM) hW) ym_X5_find ml_L_50 fix_cS cS_0 rfl rfl rfl dL_values_209 (by first | omega | exact Nat.le_of_ble_eq_true rfl) (by first | omega | exact Nat.le_of_ble_eq_true rfl) (by first | omega | exact Nat.le_of_ble_eq_true rfl) (Nat.le_of_ble_eq_true rfl) (fun _ _ hu => (no3 (cd_fd n1 han hn31 (show v < 256 by omega)) hu.1).elim) (fun r u hu => ?_)
                  obtain ⟨⟨-, rfl⟩, s, ⟨sT, mT⟩, rfl⟩ := hu
                  rw [tN_nI (show a < 2 ^ 31 by omega), ← hf]
                  refine v_iload C dL_values_212 rfl ?_
                  refine v_icmp_eq C 219 dL_values_214 (by decide) (fun c214 => ?_) (fun c214 => ?_)
                  · refine v_iconst (v := nI 0) C dL_values_219 (by decide) ?_
                    refine v_istore C (lo2 := [some _, some _, some _, some _, some _, some _, some _, some _, some _, some _, some _, none, some _, none, none, none, none, none, none, none, none, none, none, none, none]) dL_values_220 rfl (Nat.le_of_ble_eq_true rfl) rfl ?_
                    refine v_iconst (v := (-1)) C dL_values_222 (by decide) ?_
                    refine v_istore C (lo2 := [some _, some _, some _, some _, some _, some _, some _, some _, some _, some _, some _, none, some _, some _, none, none, none, none, none, none, none, none, none, none, none]) dL_values_223 rfl (Nat.le_of_ble_eq_true rfl) rfl ?_
                    refine v_iload_n C dL_values_225 rfl ?_
                    refine v_iconst (v := nI 1) C dL_values_226 (by decide) ?_
                    refine v_isub C dL_values_227 ?_
                    refine v_istore C (lo2 := [some _, some _, some _, some _, some _, some _, some _, some _, some _, some _, some _, none, some _, some _, some _, none, none, none, none, none, none, none, none, none, none]) dL_values_228 rfl (Nat.le_of_ble_eq_true rfl) rfl ?_
                    have L230 : ∀ (z : Nat × Int32), (fun z => a ≤ z.1 ∧ z.1 ≤ n ∧ z.2 = oN (fstG (owb m) z.1 (n - z.1))) z → (fun z : Nat × Int32 => V X iW 230 [some (.ref (g 0)), some (.ref (h 0)), some (.ref b), some (.int (nI n)), some (.int (nI a)), some (.int (nI c)), none, some (.int (nI v)), some (.int (nI Q)), none, none, none, some (.int (nI (cntG (owb m) z.1 (c + 1 - z.1)))), some (.int z.2), some (.int (nI z.1 - nI 1)), none, none, none, none, none, none, none, none, none, none] [] (cS (xK X) g ((s, m), (sT, mT), rr, hh, sl, tx) ++ (lmW (xK X) h n (m, e, m 6 0) ++ dS (xK X) b (i + 1 + 1 + 1 + 1))) (6 + 6 + 6) (36 + 36 + 36)) z := by
                      refine v_ind (fun z : Nat × Int32 => z.1) ?_
                      rintro ⟨t, o⟩ ih230 hI230
                      try dsimp only at hI230 ⊢
                      obtain ⟨g1, g2, g3⟩ := hI230
                      refine v_iload C dL_values_230 rfl ?_
                      refine v_iload C dL_values_232 rfl ?_
                      refine v_icmp_lt C 295 dL_values_234 (by decide) (fun c234 => ?_) (fun c234 => ?_)
                      · have hta : t ≤ a := by rw [nI_sub_toInt (by omega) (by omega), nI_toInt (by omega)] at c234; omega
                        have e9 : t = a := by omega
                        rw [e9] at g3 ⊢
                        rw [g3]
                        refine V.sub (lo2 := [some _, some _, none, some _, some _, some _, none, none, some _, none, none, none, some _, some _, none, none, none, none, none, none, none, none, none, none, none]) ⟨rfl, rfl, rfl, rfl, rfl, rfl, rfl, rfl, trivial⟩ ?_
                        exact vl_A hl C F ⟨s, (sT, mT), rr, hh, sl, tx, _, rfl, hH⟩ hW hI n1 hcn hQn (by omega) (by omega)
                      · have hta : a < t := by rw [nI_sub_toInt (by omega) (by omega), nI_toInt (by omega)] at c234; omega
                        refine v_aload_n C dL_values_237 rfl ?_
                        refine v_gFN (K := fun w => cS (xK X) g ((s, m), (sT, mT), rr, hh, sl, tx) ++ (w ++ dS (xK X) b (i + 1 + 1 + 1 + 1))) C (Cxt.l _ (Cxt.r _ Cxt.id)) (v := .ref (h 1)) 0 fln_L_154 lm_0 rfl dL_values_238 ?_
                        refine v_iload C dL_values_241 rfl ?_
                        refine v_gP (K := fun w => cS (xK X) g ((s, m), (sT, mT), rr, hh, sl, tx) ++ (w ++ dS (xK X) b (i + 1 + 1 + 1 + 1))) C (Cxt.l _ (Cxt.r _ Cxt.id)) (x := (some (h (8 + (t - 1))))) 1 lm_1 (by first | decide | omega) (t - 1) (if_pos (by omega)) ?_ (nI_sub (by omega)) dL_values_243 ?_
                        · omega
                        refine v_gFN (K := fun w => cS (xK X) g ((s, m), (sT, mT), rr, hh, sl, tx) ++ (w ++ dS (xK X) b (i + 1 + 1 + 1 + 1))) C (Cxt.l _ (Cxt.r _ Cxt.id)) (v := va_rf (srcV h m (t - 1))) (5 + (t - 1)) fln_L_190 (plc_at (by omega)) rfl dL_values_244 ?_
                        refine v_ifnonnull C (x := (srcV h m (t - 1))) 255 dL_values_247 (by decide) (fun a247 c247 => ?_) (fun c247 => ?_)
                        · have ho : owb m (t - 1) = true := owb_t.mpr (srcV_yes c247).1
                          refine v_iload C dL_values_255 rfl ?_
                          refine v_istore C (lo2 := [some _, some _, some _, some _, some _, some _, none, some _, some _, none, none, none, some _, some _, some _, none, none, none, none, none, none, none, none, none, none]) dL_values_257 rfl (Nat.le_of_ble_eq_true rfl) rfl ?_
                          refine v_iload C dL_values_259 rfl ?_
                          refine v_aload_n C dL_values_261 rfl ?_
                          refine v_gFN (K := fun w => cS (xK X) g ((s, m), (sT, mT), rr, hh, sl, tx) ++ (w ++ dS (xK X) b (i + 1 + 1 + 1 + 1))) C (Cxt.l _ (Cxt.r _ Cxt.id)) (v := .ref (h 1)) 0 fln_L_154 lm_0 rfl dL_values_262 ?_
                          refine v_iload C dL_values_265 rfl ?_
                          refine v_gP (K := fun w => cS (xK X) g ((s, m), (sT, mT), rr, hh, sl, tx) ++ (w ++ dS (xK X) b (i + 1 + 1 + 1 + 1))) C (Cxt.l _ (Cxt.r _ Cxt.id)) (x := (some (h (8 + (t - 1))))) 1 lm_1 (by first | decide | omega) (t - 1) (if_pos (by omega)) ?_ (nI_sub (by omega)) dL_values_267 ?_
                          · omega
                          refine v_gFN (K := fun w => cS (xK X) g ((s, m), (sT, mT), rr, hh, sl, tx) ++ (w ++ dS (xK X) b (i + 1 + 1 + 1 + 1))) C (Cxt.l _ (Cxt.r _ Cxt.id)) (v := va_rf (srcV h m (t - 1))) (5 + (t - 1)) fln_L_190 (plc_at (by omega)) rfl dL_values_268 ?_
                          refine v_ifnull C (x := (srcV h m (t - 1))) 285 dL_values_271 (by decide) (fun c271 => ?_) (fun a271 c271 => ?_)
                          · exact absurd (srcV_no.mp c271) (owb_t.mp ho)
                          · refine v_iload C dL_values_274 rfl ?_
                            refine v_iload C dL_values_276 rfl ?_
                            refine v_icmp_gt C 285 dL_values_278 (by decide) (fun c278 => ?_) (fun c278 => ?_)
                            · have htc : c < t - 1 := by rw [nI_sub_toInt (by omega) (by omega), nI_toInt (by omega)] at c278; omega
                              refine v_iconst (v := nI 0) C dL_values_285 (by decide) ?_
                              first | refine v_iaddN C dL_values_286 ?_ | refine v_iadd C dL_values_286 ?_
                              refine v_istore C (lo2 := [some _, some _, some _, some _, some _, some _, none, some _, some _, none, none, none, some _, some _, some _, none, none, none, none, none, none, none, none, none, none]) dL_values_287 rfl (Nat.le_of_ble_eq_true rfl) rfl ?_
                              refine v_iinc (v := (nI (t - 1) - nI 1)) C (lo2 := [some _, some _, some _, some _, some _, some _, none, some _, some _, none, none, none, some _, some _, some _, none, none, none, none, none, none, none, none, none, none]) dL_values_289 rfl ((by rw [nI_sub (by omega), ← nI_sub (show 1 ≤ t by omega), Int32.sub_eq_add_neg (a := nI t - nI 1)]; rfl)) rfl rfl ?_
                              refine v_goto C 230 dL_values_292 (by decide) ?_
                              rw [show cntG (owb m) t (c + 1 - t) + 0 = cntG (owb m) (t - 1) (c + 1 - (t - 1)) by rw [cntG_0 (show c + 1 ≤ t by omega), cntG_0 (show c + 1 ≤ t - 1 by omega)]]
                              exact ih230 (t - 1, nI t - nI 1) (by show t - 1 < t; omega) ⟨by show a ≤ t - 1; omega, by show t - 1 ≤ n; omega, by show nI t - nI 1 = oN (fstG (owb m) (t - 1) (n - (t - 1))); rw [fst_s (by omega), ho, if_pos rfl]; exact nI_sub (by omega)⟩
                            · have htc : t - 1 ≤ c := by rw [nI_sub_toInt (by omega) (by omega), nI_toInt (by omega)] at c278; omega
                              refine v_iconst (v := nI 1) C dL_values_281 (by decide) ?_
                              refine v_goto C 286 dL_values_282 (by decide) ?_
                              first | refine v_iaddN C dL_values_286 ?_ | refine v_iadd C dL_values_286 ?_
                              refine v_istore C (lo2 := [some _, some _, some _, some _, some _, some _, none, some _, some _, none, none, none, some _, some _, some _, none, none, none, none, none, none, none, none, none, none]) dL_values_287 rfl (Nat.le_of_ble_eq_true rfl) rfl ?_
                              refine v_iinc (v := (nI (t - 1) - nI 1)) C (lo2 := [some _, some _, some _, some _, some _, some _, none, some _, some _, none, none, none, some _, some _, some _, none, none, none, none, none, none, none, none, none, none]) dL_values_289 rfl ((by rw [nI_sub (by omega), ← nI_sub (show 1 ≤ t by omega), Int32.sub_eq_add_neg (a := nI t - nI 1)]; rfl)) rfl rfl ?_
                              refine v_goto C 230 dL_values_292 (by decide) ?_
                              rw [show cntG (owb m) t (c + 1 - t) + 1 = cntG (owb m) (t - 1) (c + 1 - (t - 1)) by rw [cntG_s (show t - 1 < c + 1 by omega), ho, if_pos rfl, show t - 1 + 1 = t by omega]; omega]
                              exact ih230 (t - 1, nI t - nI 1) (by show t - 1 < t; omega) ⟨by show a ≤ t - 1; omega, by show t - 1 ≤ n; omega, by show nI t - nI 1 = oN (fstG (owb m) (t - 1) (n - (t - 1))); rw [fst_s (by omega), ho, if_pos rfl]; exact nI_sub (by omega)⟩
                        · have ho : owb m (t - 1) = false := owb_f.mpr (srcV_no.mp c247)
                          refine v_iload C dL_values_250 rfl ?_
                          refine v_goto C 257 dL_values_252 (by decide) ?_
                          refine v_istore C (lo2 := [some _, some _, some _, some _, some _, some _, none, some _, some _, none, none, none, some _, some _, some _, none, none, none, none, none, none, none, none, none, none]) dL_values_257 rfl (Nat.le_of_ble_eq_true rfl) rfl ?_
                          refine v_iload C dL_values_259 rfl ?_
                          refine v_aload_n C dL_values_261 rfl ?_
                          refine v_gFN (K := fun w => cS (xK X) g ((s, m), (sT, mT), rr, hh, sl, tx) ++ (w ++ dS (xK X) b (i + 1 + 1 + 1 + 1))) C (Cxt.l _ (Cxt.r _ Cxt.id)) (v := .ref (h 1)) 0 fln_L_154 lm_0 rfl dL_values_262 ?_
                          refine v_iload C dL_values_265 rfl ?_
                          refine v_gP (K := fun w => cS (xK X) g ((s, m), (sT, mT), rr, hh, sl, tx) ++ (w ++ dS (xK X) b (i + 1 + 1 + 1 + 1))) C (Cxt.l _ (Cxt.r _ Cxt.id)) (x := (some (h (8 + (t - 1))))) 1 lm_1 (by first | decide | omega) (t - 1) (if_pos (by omega)) ?_ (nI_sub (by omega)) dL_values_267 ?_
                          · omega
                          refine v_gFN (K := fun w => cS (xK X) g ((s, m), (sT, mT), rr, hh, sl, tx) ++ (w ++ dS (xK X) b (i + 1 + 1 + 1 + 1))) C (Cxt.l _ (Cxt.r _ Cxt.id)) (v := va_rf (srcV h m (t - 1))) (5 + (t - 1)) fln_L_190 (plc_at (by omega)) rfl dL_values_268 ?_
                          refine v_ifnull C (x := (srcV h m (t - 1))) 285 dL_values_271 (by decide) (fun c271 => ?_) (fun a271 c271 => ?_)
                          · refine v_iconst (v := nI 0) C dL_values_285 (by decide) ?_
                            first | refine v_iaddN C dL_values_286 ?_ | refine v_iadd C dL_values_286 ?_
                            refine v_istore C (lo2 := [some _, some _, some _, some _, some _, some _, none, some _, some _, none, none, none, some _, some _, some _, none, none, none, none, none, none, none, none, none, none]) dL_values_287 rfl (Nat.le_of_ble_eq_true rfl) rfl ?_
                            refine v_iinc (v := (nI (t - 1) - nI 1)) C (lo2 := [some _, some _, some _, some _, some _, some _, none, some _, some _, none, none, none, some _, some _, some _, none, none, none, none, none, none, none, none, none, none]) dL_values_289 rfl ((by rw [nI_sub (by omega), ← nI_sub (show 1 ≤ t by omega), Int32.sub_eq_add_neg (a := nI t - nI 1)]; rfl)) rfl rfl ?_
                            refine v_goto C 230 dL_values_292 (by decide) ?_
                            rw [show cntG (owb m) t (c + 1 - t) + 0 = cntG (owb m) (t - 1) (c + 1 - (t - 1)) from cnt_dn ho (by omega)]
                            exact ih230 (t - 1, o) (by show t - 1 < t; omega) ⟨by show a ≤ t - 1; omega, by show t - 1 ≤ n; omega, by show o = oN (fstG (owb m) (t - 1) (n - (t - 1))); rw [fst_s (by omega), ho, if_neg Bool.false_ne_true, show t - 1 + 1 = t by omega]; exact g3⟩
                          · exact absurd (owb_f.mp ho) (srcV_yes c271).1
                    refine V.sub (lo2 := [some _, some _, some _, some _, some _, some _, none, some _, some _, none, none, none, some _, some _, some _, none, none, none, none, none, none, none, none, none, none]) ⟨rfl, rfl, rfl, rfl, rfl, rfl, rfl, rfl, rfl, rfl, rfl, trivial⟩ ?_
                    refine V.wid (k2 := 6 + 6 + 6) (n2 := 36 + 36 + 36) (by omega) (by omega) ?_
                    have L0 := L230 (n, -1) ⟨by show a ≤ n; omega, Nat.le_refl _, by show (-1 : Int32) = oN (fstG (owb m) n (n - n)); rw [fst_0 (Nat.le_refl _)]; rfl⟩
                    try dsimp only at L0
                    rw [cntG_0 (show c + 1 ≤ n by omega)] at L0
                    exact L0
                  · exact absurd rfl c214
            · have hta : a < t := by rw [nI_sub_toInt (by omega) (by omega), nI_toInt (by omega)] at c148; omega
              refine v_aload_n C dL_values_151 rfl ?_
              refine v_gFN (K := fun w => cS (xK X) g ((s, m), (sT, mT), rr, hh, sl, tx) ++ (w ++ dS (xK X) b (i + 1 + 1 + 1 + 1))) C (Cxt.l _ (Cxt.r _ Cxt.id)) (v := .ref (h 1)) 0 fln_L_154 lm_0 rfl dL_values_152 ?_
              refine v_iload C dL_values_155 rfl ?_
              refine v_gP (K := fun w => cS (xK X) g ((s, m), (sT, mT), rr, hh, sl, tx) ++ (w ++ dS (xK X) b (i + 1 + 1 + 1 + 1))) C (Cxt.l _ (Cxt.r _ Cxt.id)) (x := (some (h (8 + (t - 1))))) 1 lm_1 (by first | decide | omega) (t - 1) (if_pos (by omega)) ?_ (nI_sub (by omega)) dL_values_157 ?_
              · omega
              refine v_gVi (K := fun w => cS (xK X) g ((s, m), (sT, mT), rr, hh, sl, tx) ++ (w ++ dS (xK X) b (i + 1 + 1 + 1 + 1))) C (Cxt.l _ (Cxt.r _ Cxt.id)) (5 + (t - 1)) (c_X8_value hl hIM h14 (by omega)) ym_X8_value ml_L_185 (plc_at (by omega)) rfl rfl rfl dL_values_158 (by first | omega | exact Nat.le_of_ble_eq_true rfl) (by first | omega | exact Nat.le_of_ble_eq_true rfl) (by first | omega | exact Nat.le_of_ble_eq_true rfl) (Nat.le_of_ble_eq_true rfl) (fun _ _ hu => hu.elim) (fun r u hu => ?_)
              obtain ⟨rfl, rfl⟩ := hu
              refine v_iload C dL_values_161 rfl ?_
              refine v_icmp_ne C 171 dL_values_163 (by decide) (fun c163 => ?_) (fun c163 => ?_)
              · refine v_iload C dL_values_171 rfl ?_
                refine v_istore C (lo2 := [some _, some _, some _, some _, some _, some _, some _, some _, some _, some _, some _, none, some _, none, none, none, none, none, none, none, none, none, none, none, none]) dL_values_173 rfl (Nat.le_of_ble_eq_true rfl) rfl ?_
                refine v_iinc (v := (nI (t - 1) - nI 1)) C (lo2 := [some _, some _, some _, some _, some _, some _, some _, some _, some _, some _, some _, none, some _, none, none, none, none, none, none, none, none, none, none, none, none]) dL_values_175 rfl ((by rw [nI_sub (by omega), ← nI_sub (show 1 ≤ t by omega), Int32.sub_eq_add_neg (a := nI t - nI 1)]; rfl)) rfl rfl ?_
                refine v_goto C 144 dL_values_178 (by decide) ?_
                exact ih144 (t - 1, f) (by show t - 1 < t; omega) ⟨by show a ≤ t - 1; omega, by show t - 1 ≤ n; omega, by show f = oN (fstG (vlB m (nI v)) (t - 1) (n - (t - 1))); rw [fst_s (by omega), show vlB m (nI v) (t - 1) = false from beq_eq_false_iff_ne.mpr c163, if_neg Bool.false_ne_true, show t - 1 + 1 = t by omega]; exact f3⟩
              · refine v_iload C dL_values_166 rfl ?_
                refine v_goto C 173 dL_values_168 (by decide) ?_
                refine v_istore C (lo2 := [some _, some _, some _, some _, some _, some _, some _, some _, some _, some _, some _, none, some _, none, none, none, none, none, none, none, none, none, none, none, none]) dL_values_173 rfl (Nat.le_of_ble_eq_true rfl) rfl ?_
                refine v_iinc (v := (nI (t - 1) - nI 1)) C (lo2 := [some _, some _, some _, some _, some _, some _, some _, some _, some _, some _, some _, none, some _, none, none, none, none, none, none, none, none, none, none, none, none]) dL_values_175 rfl ((by rw [nI_sub (by omega), ← nI_sub (show 1 ≤ t by omega), Int32.sub_eq_add_neg (a := nI t - nI 1)]; rfl)) rfl rfl ?_
                refine v_goto C 144 dL_values_178 (by decide) ?_
                exact ih144 (t - 1, nI t - nI 1) (by show t - 1 < t; omega) ⟨by show a ≤ t - 1; omega, by show t - 1 ≤ n; omega, by show nI t - nI 1 = oN (fstG (vlB m (nI v)) (t - 1) (n - (t - 1))); rw [fst_s (by omega), show vlB m (nI v) (t - 1) = true from beq_iff_eq.mpr c163, if_pos rfl]; exact nI_sub (by omega)⟩
          refine V.sub (lo2 := [some _, some _, some _, some _, some _, some _, some _, some _, some _, some _, some _, none, some _, none, none, none, none, none, none, none, none, none, none, none, none]) ⟨rfl, rfl, rfl, rfl, rfl, rfl, rfl, rfl, rfl, rfl, rfl, rfl, trivial⟩ ?_
          exact L144 (n, -1) ⟨by show a ≤ n; omega, Nat.le_refl _, by show (-1 : Int32) = oN (fstG (vlB m (nI v)) n (n - n)); rw [fst_0 (Nat.le_refl _)]; rfl⟩
        · refine v_iload C dL_values_118 rfl ?_
          refine v_aload_n C dL_values_120 rfl ?_
          refine v_gFN (K := fun w => cS (xK X) g ((s, m), (sT, mT), rr, hh, sl, tx) ++ (w ++ dS (xK X) b (i + 1 + 1 + 1 + 1))) C (Cxt.l _ (Cxt.r _ Cxt.id)) (v := .ref (h 1)) 0 fln_L_154 lm_0 rfl dL_values_121 ?_
          refine v_iload C dL_values_124 rfl ?_
          refine v_gP (K := fun w => cS (xK X) g ((s, m), (sT, mT), rr, hh, sl, tx) ++ (w ++ dS (xK X) b (i + 1 + 1 + 1 + 1))) C (Cxt.l _ (Cxt.r _ Cxt.id)) (x := (some (h (8 + q)))) 1 lm_1 (by first | decide | omega) q (if_pos (by omega)) ?_ rfl dL_values_126 ?_
          · omega
          refine v_gVi (K := fun w => cS (xK X) g ((s, m), (sT, mT), rr, hh, sl, tx) ++ (w ++ dS (xK X) b (i + 1 + 1 + 1 + 1))) C (Cxt.l _ (Cxt.r _ Cxt.id)) (5 + q) (c_X8_value hl hIM h14 (by omega)) ym_X8_value ml_L_185 (plc_at (by omega)) rfl rfl rfl dL_values_127 (by first | omega | exact Nat.le_of_ble_eq_true rfl) (by first | omega | exact Nat.le_of_ble_eq_true rfl) (by first | omega | exact Nat.le_of_ble_eq_true rfl) (Nat.le_of_ble_eq_true rfl) (fun _ _ hu => hu.elim) (fun r u hu => ?_)
          obtain ⟨rfl, rfl⟩ := hu
          refine v_iadd C dL_values_130 ?_
          refine v_istore C (lo2 := [some _, some _, some _, some _, some _, some _, some _, some _, some _, some _, some _, none, some _, some _, none, none, none, none, none, none, none, none, none, none, none]) dL_values_131 rfl (Nat.le_of_ble_eq_true rfl) rfl ?_
          first | refine v_iinc1 C (lo2 := [some _, some _, some _, some _, some _, some _, some _, some _, some _, some _, some _, none, some _, some _, none, none, none, none, none, none, none, none, none, none, none]) dL_values_133 rfl rfl rfl ?_ | refine v_iinc C (lo2 := [some _, some _, some _, some _, some _, some _, some _, some _, some _, some _, some _, none, some _, some _, none, none, none, none, none, none, none, none, none, none, none]) dL_values_133 rfl rfl rfl rfl ?_
          refine v_goto C 111 dL_values_136 (by decide) ?_
          rw [sum_s (by omega)] at k3
          exact ih111 (q + 1, _) (by show c + 1 - (q + 1) < c + 1 - q; omega) ⟨by show a ≤ q + 1; omega, by show q + 1 ≤ c + 1; omega, k3⟩
      refine V.sub (lo2 := [some _, some _, some _, some _, some _, some _, some _, some _, some _, some _, some _, none, some _, some _, none, none, none, none, none, none, none, none, none, none, none]) ⟨rfl, rfl, rfl, rfl, rfl, rfl, rfl, rfl, rfl, rfl, rfl, rfl, rfl, trivial⟩ ?_
      exact L111 (a, nI 0) ⟨Nat.le_refl _, by show a ≤ c + 1; omega, rfl⟩
    · refine v_aload C dL_values_79 rfl ?_
      refine v_iload C dL_values_81 rfl ?_
      refine v_gP (K := fun w => cS (xK X) g ((s, m), (sT, mT), rr, hh, sl, tx) ++ (w ++ dS (xK X) b (i + 1 + 1 + 1 + 1))) C (Cxt.l _ (Cxt.r _ Cxt.id)) (x := (some (h (8 + j)))) 1 lm_1 (by first | decide | omega) j (if_pos (by omega)) ?_ rfl dL_values_83 ?_
      · omega
      refine v_astore C (lo2 := [some _, some _, some _, some _, some _, some _, some _, some _, some _, some _, some _, none, some _, some _, some _, some _, none, none, none, none, none, none, none, none, none]) dL_values_84 rfl (Nat.le_of_ble_eq_true rfl) rfl ?_
      refine v_lload C dL_values_86 rfl ?_
      refine v_ldc2 (v := 31) C (TT_t 1394 (by decide +kernel) (by decide +kernel)) dL_values_88 ?_
      refine v_lmul C dL_values_91 ?_
      refine v_aload C dL_values_92 rfl ?_
      refine v_gVi (K := fun w => cS (xK X) g ((s, m), (sT, mT), rr, hh, sl, tx) ++ (w ++ dS (xK X) b (i + 1 + 1 + 1 + 1))) C (Cxt.l _ (Cxt.r _ Cxt.id)) (5 + j) (c_X8_value hl hIM h14 (by omega)) ym_X8_value ml_L_185 (plc_at (by omega)) rfl rfl rfl dL_values_94 (by first | omega | exact Nat.le_of_ble_eq_true rfl) (by first | omega | exact Nat.le_of_ble_eq_true rfl) (by first | omega | exact Nat.le_of_ble_eq_true rfl) (Nat.le_of_ble_eq_true rfl) (fun _ _ hu => hu.elim) (fun r u hu => ?_)
      obtain ⟨rfl, rfl⟩ := hu
      refine v_i2l C dL_values_97 rfl ?_
      refine v_ladd C dL_values_98 ?_
      refine v_lstore C (lo2 := [some _, some _, some _, some _, some _, some _, some _, some _, some _, some _, some _, none, some _, some _, some _, some _, none, none, none, none, none, none, none, none, none]) dL_values_99 rfl (Nat.le_of_ble_eq_true rfl) rfl ?_
      first | refine v_iinc1 C (lo2 := [some _, some _, some _, some _, some _, some _, some _, some _, some _, some _, some _, none, some _, some _, some _, some _, none, none, none, none, none, none, none, none, none]) dL_values_101 rfl rfl rfl ?_ | refine v_iinc C (lo2 := [some _, some _, some _, some _, some _, some _, some _, some _, some _, some _, some _, none, some _, some _, some _, some _, none, none, none, none, none, none, none, none, none]) dL_values_101 rfl rfl rfl rfl ?_
      refine v_goto C 72 dL_values_104 (by decide) ?_
      refine V.sub (lo2 := [some _, some _, some _, some _, some _, some _, some _, some _, some _, some _, some _, none, some _, some _, some _, none, none, none, none, none, none, none, none, none, none]) ⟨rfl, rfl, rfl, rfl, rfl, rfl, rfl, rfl, rfl, rfl, rfl, rfl, rfl, rfl, trivial⟩ ?_
      rw [chk_s (by omega)] at i2
      exact ih72 (j + 1, _) (by show n - (j + 1) < n - j; omega) ⟨by show j + 1 ≤ n; omega, i2⟩
  exact L72 (0, 17) ⟨Nat.zero_le _, rfl⟩
