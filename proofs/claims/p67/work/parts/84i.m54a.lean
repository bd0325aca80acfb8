set_option maxHeartbeats 2000000 in
theorem db_0 {X : Cx} {g h e : Nat → Nat} {n cM sq k K0 N0 : Nat} {m : Mg} {p : Int32} {u : Cg} {T : List Nat} {sv N : Nat} {D : Option Nat} (hl : (xl X).stackTraces = false) (C : Ok SS MM X RL cL_debts 17 17 4200 140000) (F : FinG X (some FieldType.boolean) ri (fun r w => r = nI 1 ∧ ∃ u', GU m u' ∧ w = cS (xK X) g u' ++ lmW (xK X) h n (m, e, p)) (fun _ _ => False) 4200 140000) (hG : GU m u) (hW : WM n cM m) (hI : LI n m) (n1 : ¬ n = 0) (hS : SbOK N T) (hTL : T.length ≤ 13 * k) (hT : T.map nI = forG (dbsS m n) 0 k []) (hK0 : K0 ≤ 10 + 60 * k + 0) (hN0 : N0 ≤ 100 + 8000 * k + 0) (hkn : k < n) (IH : DBH X g h e n m p sq (k + 1)) (hD : D = (forG (nstep m (nI 2)) 0 k none)) (hinj : ∀ i j, i < n → j < n → h (8 + i) = h (8 + j) → i = j) : V X iW 22 [some (.ref (g 0)), some (.ref (h 0)), some (.int (nI (cntG (startM m) 0 k))), some (.int (nI (cntG (stlB m) 0 k))), some (.int (nI (cntG (crdB m n) 0 k))), some (.ref sq), some (va_rf (oH h D)), some (.int (nI k)), none, none, none, none, none, none, none, none, none] [] ((cS (xK X) g u ++ sbW (xK X) sq sv N T) ++ lmW (xK X) h n (m, e, p)) K0 N0 := by
  obtain ⟨s, ⟨sT, mT⟩, rr, hh, sl, tx, L0, rfl, hH⟩ := hG
  have h14 := hI.1
  have hIM := hI.im
  have hE := hI.ev
  have hset := hI.set
  have hn31 : n < 2 ^ 31 := by omega
  have hn96 : n ≤ 96 := by omega
  obtain ⟨rk, hrk⟩ := IM_rk hIM
  refine v_iload C dL_debts_22 rfl ?_
  refine v_aload_n C dL_debts_24 rfl ?_
  refine v_gFN (K := fun w => (cS (xK X) g ((s, m), (sT, mT), rr, hh, sl, tx) ++ sbW (xK X) sq sv N (T)) ++ w) C (Cxt.l _ Cxt.id) (v := .ref (h 1)) 0 fln_L_154 lm_0 rfl dL_debts_25 ?_
  refine v_lenA (K := fun w => (cS (xK X) g ((s, m), (sT, mT), rr, hh, sl, tx) ++ sbW (xK X) sq sv N (T)) ++ w) C (Cxt.l _ Cxt.id) (N := n) 3 1 rfl lm_1 rfl dL_debts_28 ?_
  first | refine v_icmp_geN C 447 dL_debts_29 (by decide) (by omega) (by omega) (fun c29 => ?_) (fun c29 => ?_) | refine v_icmp_ge C 447 dL_debts_29 (by decide) (fun c29 => ?_) (fun c29 => ?_)
  · omega
  · refine v_aload_n C dL_debts_32 rfl ?_
    refine v_gFN (K := fun w => (cS (xK X) g ((s, m), (sT, mT), rr, hh, sl, tx) ++ sbW (xK X) sq sv N (T)) ++ w) C (Cxt.l _ Cxt.id) (v := .ref (h 1)) 0 fln_L_154 lm_0 rfl dL_debts_33 ?_
    refine v_iload C dL_debts_36 rfl ?_
    refine v_gP (K := fun w => (cS (xK X) g ((s, m), (sT, mT), rr, hh, sl, tx) ++ sbW (xK X) sq sv N (T)) ++ w) C (Cxt.l _ Cxt.id) (x := (some (h (8 + k)))) 1 lm_1 (by first | decide | omega) k (if_pos (by omega)) ?_ rfl dL_debts_38 ?_
    · omega
    refine v_astore C (lo2 := [some _, some _, some _, some _, some _, some _, some _, some _, some _, none, none, none, none, none, none, none, none]) dL_debts_39 rfl (Nat.le_of_ble_eq_true rfl) rfl ?_
    refine v_iconst (v := nI 0) C dL_debts_41 (by decide) ?_
    refine v_istore C (lo2 := [some _, some _, some _, some _, some _, some _, some _, some _, some _, some _, none, none, none, none, none, none, none]) dL_debts_42 rfl (Nat.le_of_ble_eq_true rfl) rfl ?_
    refine v_iconst (v := nI 0) C dL_debts_44 (by decide) ?_
    refine v_istore C (lo2 := [some _, some _, some _, some _, some _, some _, some _, some _, some _, some _, some _, none, none, none, none, none, none]) dL_debts_45 rfl (Nat.le_of_ble_eq_true rfl) rfl ?_
    refine v_aload_n C dL_debts_47 rfl ?_
    refine v_gFN (K := fun w => (cS (xK X) g ((s, m), (sT, mT), rr, hh, sl, tx) ++ sbW (xK X) sq sv N (T)) ++ w) C (Cxt.l _ Cxt.id) (v := .ref (h 1)) 0 fln_L_154 lm_0 rfl dL_debts_48 ?_
    refine v_astore C (lo2 := [some _, some _, some _, some _, some _, some _, some _, some _, some _, some _, some _, some _, none, none, none, none, none]) dL_debts_51 rfl (Nat.le_of_ble_eq_true rfl) rfl ?_
    refine v_aload C dL_debts_53 rfl ?_
    refine v_lenA (K := fun w => (cS (xK X) g ((s, m), (sT, mT), rr, hh, sl, tx) ++ sbW (xK X) sq sv N (T)) ++ w) C (Cxt.l _ Cxt.id) (N := n) 3 1 rfl lm_1 rfl dL_debts_55 ?_
    refine v_istore C (lo2 := [some _, some _, some _, some _, some _, some _, some _, some _, some _, some _, some _, some _, some _, none, none, none, none]) dL_debts_56 rfl (Nat.le_of_ble_eq_true rfl) rfl ?_
    refine v_iconst (v := nI 0) C dL_debts_58 (by decide) ?_
    refine v_istore C (lo2 := [some _, some _, some _, some _, some _, some _, some _, some _, some _, some _, some _, some _, some _, some _, none, none, none]) dL_debts_59 rfl (Nat.le_of_ble_eq_true rfl) rfl ?_
    have L61 : ∀ (t : Nat), (fun t => t ≤ n) t → (fun t : Nat => V X iW 61 [some (.ref (g 0)), some (.ref (h 0)), some (.int (nI (cntG (startM m) 0 k))), some (.int (nI (cntG (stlB m) 0 k))), some (.int (nI (cntG (crdB m n) 0 k))), some (.ref sq), some (va_rf (oH h D)), some (.int (nI k)), some (.ref (h (8 + k))), some (.int (nI (cntG (depB m k false) 0 t))), some (.int (nI (cntG (depB m k true) 0 t))), some (.ref (h 1)), some (.int (nI n)), some (.int (nI t)), none, none, none] [] ((cS (xK X) g ((s, m), (sT, mT), rr, hh, sl, tx) ++ sbW (xK X) sq sv N T) ++ lmW (xK X) h n (m, e, p)) K0 N0) t := by
      refine v_ind (fun t : Nat => n - t) ?_
      rintro j ih61 hI61
      try dsimp only at hI61 ⊢
      refine v_iload C dL_debts_61 rfl ?_
      refine v_iload C dL_debts_63 rfl ?_
      first | refine v_icmp_geN C 158 dL_debts_65 (by decide) (by omega) (by omega) (fun c65 => ?_) (fun c65 => ?_) | refine v_icmp_ge C 158 dL_debts_65 (by decide) (fun c65 => ?_) (fun c65 => ?_)
      · have hj : j = n := by omega
        rw [hj]
        refine V.sub (lo2 := [some _, some _, some _, some _, some _, some _, some _, some _, some _, some _, some _, none, none, none, none, none, none]) ⟨rfl, rfl, rfl, rfl, rfl, rfl, rfl, rfl, rfl, rfl, rfl, trivial⟩ ?_
        exact db_1a hl C F ⟨s, (sT, mT), rr, hh, sl, tx, _, rfl, hH⟩ hW hI n1 hS hTL hT (by omega) (by omega) hkn IH hD
      · have hjn : j < n := by omega
        refine v_aload C dL_debts_68 rfl ?_
        refine v_iload C dL_debts_70 rfl ?_
        refine v_gP (K := fun w => (cS (xK X) g ((s, m), (sT, mT), rr, hh, sl, tx) ++ sbW (xK X) sq sv N (T)) ++ w) C (Cxt.l _ Cxt.id) (x := (some (h (8 + j)))) 1 lm_1 (by first | decide | omega) j (if_pos (by omega)) ?_ rfl dL_debts_72 ?_
        · omega
        refine v_astore C (lo2 := [some _, some _, some _, some _, some _, some _, some _, some _, some _, some _, some _, some _, some _, some _, some _, none, none]) dL_debts_73 rfl (Nat.le_of_ble_eq_true rfl) rfl ?_
        refine v_iload C dL_debts_75 rfl ?_
        refine v_aload C dL_debts_77 rfl ?_
        refine v_gFN (K := fun w => (cS (xK X) g ((s, m), (sT, mT), rr, hh, sl, tx) ++ sbW (xK X) sq sv N (T)) ++ w) C (Cxt.l _ Cxt.id) (v := va_rf (srcV h m j)) (5 + j) fln_L_190 (plc_at hjn) rfl dL_debts_79 ?_
        refine v_aload C dL_debts_82 rfl ?_
        refine v_acmp_ne C (x := (srcV h m j)) (y := (some (h (8 + k)))) 91 dL_debts_84 (by decide) (fun c84 => ?_) (fun c84 => ?_)
        · have hd := dep_nos hIM hjn hkn c84
          refine v_iconst (v := nI 0) C dL_debts_91 (by decide) ?_
          first | refine v_iaddN C dL_debts_92 ?_ | refine v_iadd C dL_debts_92 ?_
          refine V_stk (st2 := [.int (nI (cntG (depB m k false) 0 (j + 1)))]) (by rw [cnt_e, hd]; rfl) ?_
          refine v_istore C (lo2 := [some _, some _, some _, some _, some _, some _, some _, some _, some _, some _, some _, some _, some _, some _, some _, none, none]) dL_debts_93 rfl (Nat.le_of_ble_eq_true rfl) rfl ?_
          refine v_iconst (v := nI 0) C dL_debts_95 (by decide) ?_
          refine v_istore C (lo2 := [some _, some _, some _, some _, some _, some _, some _, some _, some _, some _, some _, some _, some _, some _, some _, some _, none]) dL_debts_96 rfl (Nat.le_of_ble_eq_true rfl) rfl ?_
          refine v_aload C dL_debts_98 rfl ?_
          refine v_gFN (K := fun w => (cS (xK X) g ((s, m), (sT, mT), rr, hh, sl, tx) ++ sbW (xK X) sq sv N (T)) ++ w) C (Cxt.l _ Cxt.id) (v := va_rf (srcV h m j)) (5 + j) fln_L_190 (plc_at hjn) rfl dL_debts_100 ?_
          rw [srcV_o]
          refine v_astoreq C (x := (oH h (srcO m j))) (lo2 := [some _, some _, some _, some _, some _, some _, some _, some _, some _, some _, some _, some _, some _, some _, some _, some _, some _]) dL_debts_103 rfl (Nat.le_of_ble_eq_true rfl) rfl ?_
          have L105 : ∀ (t : Option Nat × Bool), (fun t => WayR m n k rk t.2 (depB m k true j) t.1) t → (fun t : Option Nat × Bool => V X iW 105 [some (.ref (g 0)), some (.ref (h 0)), some (.int (nI (cntG (startM m) 0 k))), some (.int (nI (cntG (stlB m) 0 k))), some (.int (nI (cntG (crdB m n) 0 k))), some (.ref sq), some (va_rf (oH h D)), some (.int (nI k)), some (.ref (h (8 + k))), some (.int (nI (cntG (depB m k false) 0 (j + 1)))), some (.int (nI (cntG (depB m k true) 0 j))), some (.ref (h 1)), some (.int (nI n)), some (.int (nI j)), some (.ref (h (8 + j))), some (.int (bI t.2)), some (va_rf (oH h t.1))] [] ((cS (xK X) g ((s, m), (sT, mT), rr, hh, sl, tx) ++ sbW (xK X) sq sv N T) ++ lmW (xK X) h n (m, e, p)) K0 N0) t := by
            refine v_ind (fun t : Option Nat × Bool => owM rk t.1) ?_
            rintro ⟨w, z⟩ ih105 hI105
            try dsimp only at hI105 ⊢
            refine v_aloadq C (x := (oH h w)) dL_debts_105 rfl ?_
            cases w with
            | none =>
              have hz : z = depB m k true j := hI105
              refine v_ifnull C (x := none) 137 dL_debts_107 (by decide) (fun _ => ?_) (fun _ c => by cases c)
              refine v_iload C dL_debts_137 rfl ?_
              refine v_iload C dL_debts_139 rfl ?_
              refine v_if_eqB C 148 dL_debts_141 (by decide) (fun c141 => ?_) (fun c141 => ?_)
              · refine v_iconst (v := nI 0) C dL_debts_148 (by decide) ?_
                first | refine v_iaddN C dL_debts_149 ?_ | refine v_iadd C dL_debts_149 ?_
                refine V_stk (st2 := [.int (nI (cntG (depB m k true) 0 (j + 1)))]) (by rw [cnt_e, ← hz, c141]; rfl) ?_
                refine v_istore C (lo2 := [some _, some _, some _, some _, some _, some _, some _, some _, some _, some _, some _, some _, some _, some _, some _, some _, some _]) dL_debts_150 rfl (Nat.le_of_ble_eq_true rfl) rfl ?_
                first | refine v_iinc1 C (lo2 := [some _, some _, some _, some _, some _, some _, some _, some _, some _, some _, some _, some _, some _, some _, some _, some _, some _]) dL_debts_152 rfl rfl rfl ?_ | refine v_iinc C (lo2 := [some _, some _, some _, some _, some _, some _, some _, some _, some _, some _, some _, some _, some _, some _, some _, some _, some _]) dL_debts_152 rfl rfl rfl rfl ?_
                refine v_goto C 61 dL_debts_155 (by decide) ?_
                refine V.sub (lo2 := [some _, some _, some _, some _, some _, some _, some _, some _, some _, some _, some _, some _, some _, some _, none, none, none]) ⟨rfl, rfl, rfl, rfl, rfl, rfl, rfl, rfl, rfl, rfl, rfl, rfl, rfl, rfl, trivial⟩ ?_
                exact ih61 (j + 1) (by show n - (j + 1) < n - j; omega) (by show j + 1 ≤ n; omega)
              · refine v_iconst (v := nI 1) C dL_debts_144 (by decide) ?_
                refine v_goto C 149 dL_debts_145 (by decide) ?_
                first | refine v_iaddN C dL_debts_149 ?_ | refine v_iadd C dL_debts_149 ?_
                refine V_stk (st2 := [.int (nI (cntG (depB m k true) 0 (j + 1)))]) (by rw [cnt_e, ← hz, c141]; rfl) ?_
                refine v_istore C (lo2 := [some _, some _, some _, some _, some _, some _, some _, some _, some _, some _, some _, some _, some _, some _, some _, some _, some _]) dL_debts_150 rfl (Nat.le_of_ble_eq_true rfl) rfl ?_
                first | refine v_iinc1 C (lo2 := [some _, some _, some _, some _, some _, some _, some _, some _, some _, some _, some _, some _, some _, some _, some _, some _, some _]) dL_debts_152 rfl rfl rfl ?_ | refine v_iinc C (lo2 := [some _, some _, some _, some _, some _, some _, some _, some _, some _, some _, some _, some _, some _, some _, some _, some _, some _]) dL_debts_152 rfl rfl rfl rfl ?_
                refine v_goto C 61 dL_debts_155 (by decide) ?_
                refine V.sub (lo2 := [some _, some _, some _, some _, some _, some _, some _, some _, some _, some _, some _, some _, some _, some _, none, none, none]) ⟨rfl, rfl, rfl, rfl, rfl, rfl, rfl, rfl, rfl, rfl, rfl, rfl, rfl, rfl, trivial⟩ ?_
                exact ih61 (j + 1) (by show n - (j + 1) < n - j; omega) (by show j + 1 ≤ n; omega)
            | some a =>
              have ha : a < n := hI105.1
              refine v_ifnull C (x := some (h (8 + a))) 137 dL_debts_107 (by decide) (fun c => by cases c) (fun _ _ => ?_)
              refine v_iload C dL_debts_110 rfl ?_
              refine v_aload C dL_debts_112 rfl ?_
              refine v_aload C dL_debts_114 rfl ?_
              refine v_acmp_ne C (x := (some (h (8 + a)))) (y := (some (h (8 + k)))) 123 dL_debts_116 (by decide) (fun c116 => ?_) (fun c116 => ?_)
              · have hb : (a == k) = false := beq_eq_false_iff_ne.mpr (fun z => c116 (by rw [z]))
                refine v_iconst (v := nI 0) C dL_debts_123 (by decide) ?_
                refine v_ior C dL_debts_124 ?_
                refine V_stk (st2 := [.int (bI (z || (a == k)))]) (by rw [hb]; exact congrArg (fun x => [Value.int x]) (bI_or (a := z) (b := false))) ?_
                refine v_istore C (lo2 := [some _, some _, some _, some _, some _, some _, some _, some _, some _, some _, some _, some _, some _, some _, some _, some _, some _]) dL_debts_125 rfl (Nat.le_of_ble_eq_true rfl) rfl ?_
                refine v_aload C dL_debts_127 rfl ?_
                refine v_gFN (K := fun w => (cS (xK X) g ((s, m), (sT, mT), rr, hh, sl, tx) ++ sbW (xK X) sq sv N (T)) ++ w) C (Cxt.l _ Cxt.id) (v := va_rf (srcV h m a)) (5 + a) fln_L_190 (plc_at ha) rfl dL_debts_129 ?_
                rw [srcV_o]
                refine v_astoreq C (x := (oH h (srcO m a))) (lo2 := [some _, some _, some _, some _, some _, some _, some _, some _, some _, some _, some _, some _, some _, some _, some _, some _, some _]) dL_debts_132 rfl (Nat.le_of_ble_eq_true rfl) rfl ?_
                refine v_goto C 105 dL_debts_134 (by decide) ?_
                exact ih105 (srcO m a, z || (a == k)) (srcO_dec hrk ha) (hI105.step hIM hrk)
              · have hb : (a == k) = true := beq_iff_eq.mpr (hinj a k ha hkn (Option.some.inj c116))
                refine v_iconst (v := nI 1) C dL_debts_119 (by decide) ?_
                refine v_goto C 124 dL_debts_120 (by decide) ?_
                refine v_ior C dL_debts_124 ?_
                refine V_stk (st2 := [.int (bI (z || (a == k)))]) (by rw [hb]; exact congrArg (fun x => [Value.int x]) (bI_or (a := z) (b := true))) ?_
                refine v_istore C (lo2 := [some _, some _, some _, some _, some _, some _, some _, some _, some _, some _, some _, some _, some _, some _, some _, some _, some _]) dL_debts_125 rfl (Nat.le_of_ble_eq_true rfl) rfl ?_
                refine v_aload C dL_debts_127 rfl ?_
                refine v_gFN (K := fun w => (cS (xK X) g ((s, m), (sT, mT), rr, hh, sl, tx) ++ sbW (xK X) sq sv N (T)) ++ w) C (Cxt.l _ Cxt.id) (v := va_rf (srcV h m a)) (5 + a) fln_L_190 (plc_at ha) rfl dL_debts_129 ?_
                rw [srcV_o]
                refine v_astoreq C (x := (oH h (srcO m a))) (lo2 := [some _, some _, some _, some _, some _, some _, some _, some _, some _, some _, some _, some _, some _, some _, some _, some _, some _]) dL_debts_132 rfl (Nat.le_of_ble_eq_true rfl) rfl ?_
                refine v_goto C 105 dL_debts_134 (by decide) ?_
                exact ih105 (srcO m a, z || (a == k)) (srcO_dec hrk ha) (hI105.step hIM hrk)
          exact L105 (srcO m j, false) (WayR.init hIM hrk hjn)
        · have hd := dep_src hIM hjn hkn hinj c84
          refine v_iconst (v := nI 1) C dL_debts_87 (by decide) ?_
          refine v_goto C 92 dL_debts_88 (by decide) ?_
          first | refine v_iaddN C dL_debts_92 ?_ | refine v_iadd C dL_debts_92 ?_
          refine V_stk (st2 := [.int (nI (cntG (depB m k false) 0 (j + 1)))]) (by rw [cnt_e, hd]; rfl) ?_
          refine v_istore C (lo2 := [some _, some _, some _, some _, some _, some _, some _, some _, some _, some _, some _, some _, some _, some _, some _, none, none]) dL_debts_93 rfl (Nat.le_of_ble_eq_true rfl) rfl ?_
          refine v_iconst (v := nI 0) C dL_debts_95 (by decide) ?_
          refine v_istore C (lo2 := [some _, some _, some _, some _, some _, some _, some _, some _, some _, some _, some _, some _, some _, some _, some _, some _, none]) dL_debts_96 rfl (Nat.le_of_ble_eq_true rfl) rfl ?_
          refine v_aload C dL_debts_98 rfl ?_
          refine v_gFN (K := fun w => (cS (xK X) g ((s, m), (sT, mT), rr, hh, sl, tx) ++ sbW (xK X) sq sv N (T)) ++ w) C (Cxt.l _ Cxt.id) (v := va_rf (srcV h m j)) (5 + j) fln_L_190 (plc_at hjn) rfl dL_debts_100 ?_
          rw [srcV_o]
          refine v_astoreq C (x := (oH h (srcO m j))) (lo2 := [some _, some _, some _, some _, some _, some _, some _, some _, some _, some _, some _, some _, some _, some _, some _, some _, some _]) dL_debts_103 rfl (Nat.le_of_ble_eq_true rfl) rfl ?_
          have L105 : ∀ (t : Option Nat × Bool), (fun t => WayR m n k rk t.2 (depB m k true j) t.1) t → (fun t : Option Nat × Bool => V X iW 105 [some (.ref (g 0)), some (.ref (h 0)), some (.int (nI (cntG (startM m) 0 k))), some (.int (nI (cntG (stlB m) 0 k))), some (.int (nI (cntG (crdB m n) 0 k))), some (.ref sq), some (va_rf (oH h D)), some (.int (nI k)), some (.ref (h (8 + k))), some (.int (nI (cntG (depB m k false) 0 (j + 1)))), some (.int (nI (cntG (depB m k true) 0 j))), some (.ref (h 1)), some (.int (nI n)), some (.int (nI j)), some (.ref (h (8 + j))), some (.int (bI t.2)), some (va_rf (oH h t.1))] [] ((cS (xK X) g ((s, m), (sT, mT), rr, hh, sl, tx) ++ sbW (xK X) sq sv N T) ++ lmW (xK X) h n (m, e, p)) K0 N0) t := by
            refine v_ind (fun t : Option Nat × Bool => owM rk t.1) ?_
            rintro ⟨w, z⟩ ih105 hI105
            try dsimp only at hI105 ⊢
            refine v_aloadq C (x := (oH h w)) dL_debts_105 rfl ?_
            cases w with
            | none =>
              have hz : z = depB m k true j := hI105
              refine v_ifnull C (x := none) 137 dL_debts_107 (by decide) (fun _ => ?_) (fun _ c => by cases c)
              refine v_iload C dL_debts_137 rfl ?_
              refine v_iload C dL_debts_139 rfl ?_
              refine v_if_eqB C 148 dL_debts_141 (by decide) (fun c141 => ?_) (fun c141 => ?_)
              · refine v_iconst (v := nI 0) C dL_debts_148 (by decide) ?_
                first | refine v_iaddN C dL_debts_149 ?_ | refine v_iadd C dL_debts_149 ?_
                refine V_stk (st2 := [.int (nI (cntG (depB m k true) 0 (j + 1)))]) (by rw [cnt_e, ← hz, c141]; rfl) ?_
                refine v_istore C (lo2 := [some _, some _, some _, some _, some _, some _, some _, some _, some _, some _, some _, some _, some _, some _, some _, some _, some _]) dL_debts_150 rfl (Nat.le_of_ble_eq_true rfl) rfl ?_
                first | refine v_iinc1 C (lo2 := [some _, some _, some _, some _, some _, some _, some _, some _, some _, some _, some _, some _, some _, some _, some _, some _, some _]) dL_debts_152 rfl rfl rfl ?_ | refine v_iinc C (lo2 := [some _, some _, some _, some _, some _, some _, some _, some _, some _, some _, some _, some _, some _, some _, some _, some _, some _]) dL_debts_152 rfl rfl rfl rfl ?_
                refine v_goto C 61 dL_debts_155 (by decide) ?_
                refine V.sub (lo2 := [some _, some _, some _, some _, some _, some _, some _, some _, some _, some _, some _, some _, some _, some _, none, none, none]) ⟨rfl, rfl, rfl, rfl, rfl, rfl, rfl, rfl, rfl, rfl, rfl, rfl, rfl, rfl, trivial⟩ ?_
                exact ih61 (j + 1) (by show n - (j + 1) < n - j; omega) (by show j + 1 ≤ n; omega)
              · refine v_iconst (v := nI 1) C dL_debts_144 (by decide) ?_
                refine v_goto C 149 dL_debts_145 (by decide) ?_
                first | refine v_iaddN C dL_debts_149 ?_ | refine v_iadd C dL_debts_149 ?_
                refine V_stk (st2 := [.int (nI (cntG (depB m k true) 0 (j + 1)))]) (by rw [cnt_e, ← hz, c141]; rfl) ?_
                refine v_istore C (lo2 := [some _, some _, some _, some _, some _, some _, some _, some _, some _, some _, some _, some _, some _, some _, some _, some _, some _]) dL_debts_150 rfl (Nat.le_of_ble_eq_true rfl) rfl ?_
                first | refine v_iinc1 C (lo2 := [some _, some _, some _, some _, some _, some _, some _, some _, some _, some _, some _, some _, some _, some _, some _, some _, some _]) dL_debts_152 rfl rfl rfl ?_ | refine v_iinc C (lo2 := [some _, some _, some _, some _, some _, some _, some _, some _, some _, some _, some _, some _, some _, some _, some _, some _, some _]) dL_debts_152 rfl rfl rfl rfl ?_
                refine v_goto C 61 dL_debts_155 (by decide) ?_
                refine V.sub (lo2 := [some _, some _, some _, some _, some _, some _, some _, some _, some _, some _, some _, some _, some _, some _, none, none, none]) ⟨rfl, rfl, rfl, rfl, rfl, rfl, rfl, rfl, rfl, rfl, rfl, rfl, rfl, rfl, trivial⟩ ?_
                exact ih61 (j + 1) (by show n - (j + 1) < n - j; omega) (by show j + 1 ≤ n; omega)
            | some a =>
              have ha : a < n := hI105.1
              refine v_ifnull C (x := some (h (8 + a))) 137 dL_debts_107 (by decide) (fun c => by cases c) (fun _ _ => ?_)
              refine v_iload C dL_debts_110 rfl ?_
              refine v_aload C dL_debts_112 rfl ?_
              refine v_aload C dL_debts_114 rfl ?_
              refine v_acmp_ne C (x := (some (h (8 + a)))) (y := (some (h (8 + k)))) 123 dL_debts_116 (by decide) (fun c116 => ?_) (fun c116 => ?_)
              · have hb : (a == k) = false := beq_eq_false_iff_ne.mpr (fun z => c116 (by rw [z]))
                refine v_iconst (v := nI 0) C dL_debts_123 (by decide) ?_
                refine v_ior C dL_debts_124 ?_
                refine V_stk (st2 := [.int (bI (z || (a == k)))]) (by rw [hb]; exact congrArg (fun x => [Value.int x]) (bI_or (a := z) (b := false))) ?_
                refine v_istore C (lo2 := [some _, some _, some _, some _, some _, some _, some _, some _, some _, some _, some _, some _, some _, some _, some _, some _, some _]) dL_debts_125 rfl (Nat.le_of_ble_eq_true rfl) rfl ?_
                refine v_aload C dL_debts_127 rfl ?_
                refine v_gFN (K := fun w => (cS (xK X) g ((s, m), (sT, mT), rr, hh, sl, tx) ++ sbW (xK X) sq sv N (T)) ++ w) C (Cxt.l _ Cxt.id) (v := va_rf (srcV h m a)) (5 + a) fln_L_190 (plc_at ha) rfl dL_debts_129 ?_
                rw [srcV_o]
                refine v_astoreq C (x := (oH h (srcO m a))) (lo2 := [some _, some _, some _, some _, some _, some _, some _, some _, some _, some _, some _, some _, some _, some _, some _, some _, some _]) dL_debts_132 rfl (Nat.le_of_ble_eq_true rfl) rfl ?_
                refine v_goto C 105 dL_debts_134 (by decide) ?_
                exact ih105 (srcO m a, z || (a == k)) (srcO_dec hrk ha) (hI105.step hIM hrk)
              · have hb : (a == k) = true := beq_iff_eq.mpr (hinj a k ha hkn (Option.some.inj c116))
                refine v_iconst (v := nI 1) C dL_debts_119 (by decide) ?_
                refine v_goto C 124 dL_debts_120 (by decide) ?_
                refine v_ior C dL_debts_124 ?_
                refine V_stk (st2 := [.int (bI (z || (a == k)))]) (by rw [hb]; exact congrArg (fun x => [Value.int x]) (bI_or (a := z) (b := true))) ?_
                refine v_istore C (lo2 := [some _, some _, some _, some _, some _, some _, some _, some _, some _, some _, some _, some _, some _, some _, some _, some _, some _]) dL_debts_125 rfl (Nat.le_of_ble_eq_true rfl) rfl ?_
                refine v_aload C dL_debts_127 rfl ?_
                refine v_gFN (K := fun w => (cS (xK X) g ((s, m), (sT, mT), rr, hh, sl, tx) ++ sbW (xK X) sq sv N (T)) ++ w) C (Cxt.l _ Cxt.id) (v := va_rf (srcV h m a)) (5 + a) fln_L_190 (plc_at ha) rfl dL_debts_129 ?_
                rw [srcV_o]
                refine v_astoreq C (x := (oH h (srcO m a))) (lo2 := [some _, some _, some _, some _, some _, some _, some _, some _, some _, some _, some _, some _, some _, some _, some _, some _, some _]) dL_debts_132 rfl (Nat.le_of_ble_eq_true rfl) rfl ?_
                refine v_goto C 105 dL_debts_134 (by decide) ?_
                exact ih105 (srcO m a, z || (a == k)) (srcO_dec hrk ha) (hI105.step hIM hrk)
          exact L105 (srcO m j, false) (WayR.init hIM hrk hjn)
    exact L61 0 (Nat.zero_le _)
