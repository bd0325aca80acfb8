set_option maxHeartbeats 16000000 in
theorem c_X7_fill {l : Launch} (hl : l.stackTraces = false) {κ : Kp} {h : Nat → Nat} {n : Nat} {m : Mg} {e : Nat → Nat} {p : Int32} {a c : Nat} {b v : Int32} (hI : IM m n) (h14 : n ≤ 14) (hE : EvOK m) (ha : a ≤ n) (hc : c ≤ n) (hb : b.toInt = (c : Int) - 1) : CtG SS MM l κ yX7_fill cX7_fill 6 (some FieldType.int) 18 28 84 [.ref (h 0), .int (nI a), .int b, .int v] (lmW κ h n (m, e, p)) ri (fun r w => r = nI (fillL n a c v m).1 ∧ ∃ e', w = lmW κ h n ((fillL n a c v m).2, e', p)) (fun _ _ => False) := by
  refine CtG.of (own := RX7) (by decide) rfl hl (by intro v hv; simp only [List.mem_cons, List.not_mem_nil, or_false] at hv; first | (rcases hv with rfl | rfl | rfl | rfl | rfl | rfl <;> rfl) | (rcases hv with rfl | rfl | rfl | rfl | rfl <;> rfl) | (rcases hv with rfl | rfl | rfl | rfl <;> rfl) | (rcases hv with rfl | rfl | rfl <;> rfl) | (rcases hv with rfl | rfl <;> rfl) | (subst hv; rfl) | exact hv.elim) (Nat.le_of_ble_eq_true rfl) (fun X hxl hxk C F NH hnm => ?_)
  subst hxl hxk
  show V X iW 0 [some (.ref (h 0)), some (.int (nI a)), some (.int b), some (.int v), none, none] [] (lmW (xK X) h n (m, e, p)) 0 0
  have hT := fun q (_ : q < n) => rowT_i (a := a) hb (by omega) q
  have hdp := depM_ok (T := (fun q => decide (a ≤ q ∧ q < c))) hI
  have ha31 := nI_toInt (n := a) (by omega)
  refine v_aload_n C dX7_fill_0 rfl ?_
  refine v_iload_n C dX7_fill_1 rfl ?_
  refine v_iload_n C dX7_fill_2 rfl ?_
  refine v_gVi (K := fun w => w) C Cxt.id 0 (c_X7_force hl hI h14 hE hT) ym_X7_force ml_X7_154 lm_0 rfl rfl rfl dX7_fill_3 (by first | exact Nat.le_of_ble_eq_true rfl | omega) (by first | exact Nat.le_of_ble_eq_true rfl | omega) (by first | exact Nat.le_of_ble_eq_true rfl | omega) (Nat.le_of_ble_eq_true rfl) (fun _ _ hu => hu.elim) (fun r u hu => ?_)
  obtain ⟨rfl, e1, rfl⟩ := hu
  refine v_istore C (lo2 := [some _, some _, some _, some _, some _, none]) dX7_fill_6 rfl (Nat.le_of_ble_eq_true rfl) rfl ?_
  refine v_iload_n C dX7_fill_8 rfl ?_
  refine v_istore C (lo2 := [some _, some _, some _, some _, some _, some _]) dX7_fill_9 rfl (Nat.le_of_ble_eq_true rfl) rfl ?_
  have L11 : ∀ (t : Nat × Mg × (Nat → Nat)), (fun t => a ≤ t.1 ∧ (t.1 ≤ c ∨ t.1 = a) ∧ t.1 ≤ n ∧ forG (fun p y => dropO y p) t.1 (c - t.1) t.2.1 = forG (fun p y => dropO y p) a (c - a) (depM (fun q => decide (a ≤ q ∧ q < c)) n m).2 ∧ EvOK t.2.1) t → (fun t : Nat × Mg × (Nat → Nat) => V X iW 11 [some (.ref (h 0)), some (.int (nI a)), some (.int b), some (.int v), some (.int (nI (depM (fun q => decide (a ≤ q ∧ q < c)) n m).1)), some (.int (nI t.1))] [] (lmW (xK X) h n (t.2.1, t.2.2, p)) (14 + (t.1 - a)) (42 + 3 * (t.1 - a))) t := by
    refine v_ind (fun t : Nat × Mg × (Nat → Nat) => c - t.1) ?_
    rintro ⟨i, y, e⟩ ih11 hI11
    try dsimp only at hI11 ⊢
    obtain ⟨i1, i2, i3, i4, hEy⟩ := hI11
    refine v_iload C dX7_fill_11 rfl ?_
    refine v_iload_n C dX7_fill_13 rfl ?_
    refine v_icmp_gt C 34 dX7_fill_14 (by decide) (fun c14 => ?_) (fun c14 => ?_)
    · have hic : c ≤ i := by rw [nI_toInt (by omega), hb] at c14; omega
      refine v_iload_n C dX7_fill_34 rfl ?_
      refine v_istore C (lo2 := [some _, some _, some _, some _, some _, some _]) dX7_fill_35 rfl (Nat.le_of_ble_eq_true rfl) rfl ?_
      have L37 : ∀ (t : Nat × Mg), (fun t => a ≤ t.1 ∧ (t.1 ≤ c ∨ t.1 = a) ∧ t.1 ≤ n ∧ setB v t.1 (c - t.1) t.2 = (fillL n a c v m).2) t → (fun t : Nat × Mg => V X iW 37 [some (.ref (h 0)), some (.int (nI a)), some (.int b), some (.int v), some (.int (nI (depM (fun q => decide (a ≤ q ∧ q < c)) n m).1)), some (.int (nI t.1))] [] (lmW (xK X) h n (t.2, e, p)) 28 84) t := by
        refine v_ind (fun t : Nat × Mg => c - t.1) ?_
        rintro ⟨j, z⟩ ih37 hI37
        try dsimp only at hI37 ⊢
        obtain ⟨j1, j2, j3, j4⟩ := hI37
        obtain ⟨i, hij⟩ : ∃ i, i = j := ⟨_, rfl⟩
        subst hij
        refine v_iload C dX7_fill_37 rfl ?_
        refine v_iload_n C dX7_fill_39 rfl ?_
        refine v_icmp_gt C 60 dX7_fill_40 (by decide) (fun c40 => ?_) (fun c40 => ?_)
        · have hic : c ≤ i := by rw [nI_toInt (by omega), hb] at c40; omega
          refine v_iload C dX7_fill_60 rfl ?_
          refine v_iretG C F (by first | rfl | exact bI_nar _) dX7_fill_62 (by first | exact Nat.le_of_ble_eq_true rfl | omega) (by first | exact Nat.le_of_ble_eq_true rfl | omega) rfl (List.Perm.refl _) ?_
          have hs : setB v i (c - i) z = z := forG_0 hic
          exact ⟨rfl, e, by rw [← j4, hs]⟩
        · have hic : i < c := by rw [nI_toInt (by omega), hb] at c40; omega
          refine v_aload_n C dX7_fill_43 rfl ?_
          refine v_gF (K := fun w => w) C Cxt.id (v := .ref (h 1)) 0 fl_X7_40 lm_0 rfl dX7_fill_44 ?_
          refine v_iload C dX7_fill_47 rfl ?_
          refine v_gP (K := fun w => w) C Cxt.id (x := (some (h (8 + i)))) 1 lm_1 (by first | decide | omega) i (if_pos (by omega)) ?_ rfl dX7_fill_49 ?_
          · omega
          refine v_iload_n C dX7_fill_50 rfl ?_
          refine v_pFN (K := fun w => w) C Cxt.id (5 + i) fln_X7_65 fw_X8_1 (plc_at (by omega)) rfl rfl (Nat.le_of_ble_eq_true rfl) (set_stored (by omega)) dX7_fill_51 ?_
          first | refine v_iinc1 C (lo2 := [some _, some _, some _, some _, some _, some _]) dX7_fill_54 rfl rfl rfl ?_ | refine v_iinc C (lo2 := [some _, some _, some _, some _, some _, some _]) dX7_fill_54 rfl rfl rfl rfl ?_
          refine v_goto C 37 dX7_fill_57 (by decide) ?_
          have hs : setB v i (c - i) z = setB v (i + 1) (c - (i + 1)) (byteM z i v) := forG_s hic
          rw [hs] at j4
          exact ih37 (i + 1, byteM z i v) (by show c - (i + 1) < c - i; omega) ⟨by show a ≤ i + 1; omega, by show i + 1 ≤ c ∨ _; omega, by show i + 1 ≤ n; omega, j4⟩
      refine V.wid (k2 := 28) (n2 := 84) (by omega) (by omega) ?_
      exact L37 (a, y) ⟨Nat.le_refl _, Or.inr rfl, ha, by
        show setB v a (c - a) y = _
        rw [forG_0 hic] at i4
        rw [i4]
        rfl⟩
    · have hic : i < c := by rw [nI_toInt (by omega), hb] at c14; omega
      refine v_aload_n C dX7_fill_17 rfl ?_
      refine v_aload_n C dX7_fill_18 rfl ?_
      refine v_gF (K := fun w => w) C Cxt.id (v := .ref (h 1)) 0 fl_X7_40 lm_0 rfl dX7_fill_19 ?_
      refine v_iload C dX7_fill_22 rfl ?_
      refine v_gP (K := fun w => w) C Cxt.id (x := (some (h (8 + i)))) 1 lm_1 (by first | decide | omega) i (if_pos (by omega)) ?_ rfl dX7_fill_24 ?_
      · omega
      refine v_gVv (K := fun w => w) C Cxt.id 0 (c_X7_drop hl hEy (by omega)) ym_X7_drop ml_X7_117 lm_0 rfl rfl rfl dX7_fill_25 (by first | exact Nat.le_of_ble_eq_true rfl | omega) (by first | exact Nat.le_of_ble_eq_true rfl | omega) (by first | exact Nat.le_of_ble_eq_true rfl | omega) (Nat.le_of_ble_eq_true rfl) (fun _ _ hu => hu.elim) (fun r u hu => ?_)
      obtain ⟨e2, rfl⟩ := hu
      first | refine v_iinc1 C (lo2 := [some _, some _, some _, some _, some _, some _]) dX7_fill_28 rfl rfl rfl ?_ | refine v_iinc C (lo2 := [some _, some _, some _, some _, some _, some _]) dX7_fill_28 rfl rfl rfl rfl ?_
      refine v_goto C 11 dX7_fill_31 (by decide) ?_
      rw [forG_s hic] at i4
      refine V.wid (k2 := 14 + (i + 1 - a)) (n2 := 42 + 3 * (i + 1 - a)) (by omega) (by omega) ?_
      exact ih11 (i + 1, dropO y i, e2) (by show c - (i + 1) < c - i; omega) ⟨by show a ≤ i + 1; omega, by show i + 1 ≤ c ∨ _; omega, by show i + 1 ≤ n; omega, i4, drop_ev hEy⟩
  refine V.wid (k2 := 14 + (a - a)) (n2 := 42 + 3 * (a - a)) (by omega) (by omega) ?_
  exact L11 (a, (depM (fun q => decide (a ≤ q ∧ q < c)) n m).2, e1) ⟨Nat.le_refl _, Or.inr rfl, ha, rfl, hdp.1.1.2.2.2.2 hE⟩
set_option maxHeartbeats 16000000 in
theorem c_X7_why {l : Launch} (hl : l.stackTraces = false) {κ : Kp} {h : Nat → Nat} {n : Nat} {m : Mg} {e : Nat → Nat} {p : Int32} {fr to_ len : Nat} (h14 : n ≤ 14) (hf : fr < 100) (ht : to_ < 100) (hl0 : 0 < len ∧ len < 100) (hL : ∀ q, q < n → m 4 q = bI (lockB m q)) : CtG SS MM l κ yX7_why cX7_why 7 (some FieldType.int) 0 0 0 [.ref (h 0), .int (nI fr), .int (nI to_), .int (nI len)] (lmW κ h n (m, e, p)) ri (fun r w => r = nI (whyN m n fr to_ len) ∧ w = lmW κ h n (m, e, p)) (fun _ _ => False) := by
  refine CtG.of (own := RX7) (by decide) rfl hl (by intro v hv; simp only [List.mem_cons, List.not_mem_nil, or_false] at hv; first | (rcases hv with rfl | rfl | rfl | rfl | rfl | rfl <;> rfl) | (rcases hv with rfl | rfl | rfl | rfl | rfl <;> rfl) | (rcases hv with rfl | rfl | rfl | rfl <;> rfl) | (rcases hv with rfl | rfl | rfl <;> rfl) | (rcases hv with rfl | rfl <;> rfl) | (subst hv; rfl) | exact hv.elim) (Nat.le_of_ble_eq_true rfl) (fun X hxl hxk C F NH hnm => ?_)
  subst hxl hxk
  show V X iW 0 [some (.ref (h 0)), some (.int (nI fr)), some (.int (nI to_)), some (.int (nI len)), none, none, none] [] (lmW (xK X) h n (m, e, p)) 0 0
  obtain ⟨hl1, hl2⟩ := hl0
  refine v_iload_n C dX7_why_0 rfl ?_
  refine v_iconst (v := nI 1) C dX7_why_1 (by decide) ?_
  first | refine v_icmp_geN C 7 dX7_why_2 (by decide) (by omega) (by omega) (fun c2 => ?_) (fun c2 => ?_) | refine v_icmp_ge C 7 dX7_why_2 (by decide) (fun c2 => ?_) (fun c2 => ?_)
  · refine v_aload_n C dX7_why_7 rfl ?_
    refine v_gF (K := fun w => w) C Cxt.id (v := .ref (h 1)) 0 fl_X7_40 lm_0 rfl dX7_why_8 ?_
    refine v_lenA (K := fun w => w) C Cxt.id (N := n) 3 1 rfl lm_1 rfl dX7_why_11 ?_
    refine v_i2l C dX7_why_12 rfl ?_
    refine v_lstore C (lo2 := [some _, some _, some _, some _, some _, none, none]) dX7_why_13 rfl (Nat.le_of_ble_eq_true rfl) rfl ?_
    refine v_iload_n C dX7_why_15 rfl ?_
    refine v_if_lt C 45 dX7_why_16 (by decide) (fun c16 => ?_) (fun c16 => ?_)
    · exfalso
      rw [nI_toInt (by omega)] at c16
      omega
    · refine v_iload_n C dX7_why_19 rfl ?_
      refine v_if_lt C 45 dX7_why_20 (by decide) (fun c20 => ?_) (fun c20 => ?_)
      · exfalso
        rw [nI_toInt (by omega)] at c20
        omega
      · refine v_iload_n C dX7_why_23 rfl ?_
        refine v_i2l C dX7_why_24 rfl ?_
        refine v_iload_n C dX7_why_25 rfl ?_
        refine v_i2l C dX7_why_26 rfl ?_
        refine v_ladd C dX7_why_27 ?_
        refine v_lload C dX7_why_28 rfl ?_
        refine v_lcmp C dX7_why_30 ?_
        refine v_if_gt C 45 dX7_why_31 (by decide) (fun c31 => ?_) (fun c31 => ?_)
        · rw [lg_gtN (by omega) (by omega) (by omega)] at c31
          refine v_iconst (v := nI 2) C dX7_why_45 (by decide) ?_
          refine v_iretG C F (by first | rfl | exact bI_nar _) dX7_why_46 (by first | exact Nat.le_of_ble_eq_true rfl | omega) (by first | exact Nat.le_of_ble_eq_true rfl | omega) rfl (List.Perm.refl _) ?_
          first
          | exact ⟨by unfold whyN; rw [if_neg (by omega)], rfl⟩
        · rw [lg_gtN (by omega) (by omega) (by omega)] at c31
          refine v_iload_n C dX7_why_34 rfl ?_
          refine v_i2l C dX7_why_35 rfl ?_
          refine v_iload_n C dX7_why_36 rfl ?_
          refine v_i2l C dX7_why_37 rfl ?_
          refine v_ladd C dX7_why_38 ?_
          refine v_lload C dX7_why_39 rfl ?_
          refine v_lcmp C dX7_why_41 ?_
          refine v_if_le C 47 dX7_why_42 (by decide) (fun c42 => ?_) (fun c42 => ?_)
          · have d42 : to_ + len ≤ n := by
              have z := (lg_gtN (a := to_) (b := len) (c := n) (by omega) (by omega) (by omega)).mpr
              by_cases q : n < to_ + len
              · have := z q; omega
              · omega
            refine v_iconst (v := nI 0) C dX7_why_47 (by decide) ?_
            refine v_istore C (lo2 := [some _, some _, some _, some _, some _, none, some _]) dX7_why_48 rfl (Nat.le_of_ble_eq_true rfl) rfl ?_
            have L50 : ∀ (t : Nat), (fun t => t ≤ len ∧ anyG (lockB m) (to_ + t) (len - t) = anyG (lockB m) to_ len) t → (fun t : Nat => V X iW 50 [some (.ref (h 0)), some (.int (nI fr)), some (.int (nI to_)), some (.int (nI len)), some (.long (nI n).toInt64), none, some (.int (nI t))] [] (lmW (xK X) h n (m, e, p)) 0 0) t := by
              refine v_ind (fun t : Nat => len - t) ?_
              rintro i ih50 hI50
              try dsimp only at hI50 ⊢
              obtain ⟨i1, i2⟩ := hI50
              refine v_iload C dX7_why_50 rfl ?_
              refine v_iload_n C dX7_why_52 rfl ?_
              first | refine v_icmp_geN C 79 dX7_why_53 (by decide) (by omega) (by omega) (fun c53 => ?_) (fun c53 => ?_) | refine v_icmp_ge C 79 dX7_why_53 (by decide) (fun c53 => ?_) (fun c53 => ?_)
              · refine v_iconst (v := nI 0) C dX7_why_79 (by decide) ?_
                refine v_iretG C F (by first | rfl | exact bI_nar _) dX7_why_80 (by first | exact Nat.le_of_ble_eq_true rfl | omega) (by first | exact Nat.le_of_ble_eq_true rfl | omega) rfl (List.Perm.refl _) ?_
                exact ⟨by
                  rw [show len - i = 0 by omega] at i2
                  unfold whyN
                  rw [if_pos ⟨by omega, by omega⟩, ← i2]
                  rfl, rfl⟩
              · refine v_aload_n C dX7_why_56 rfl ?_
                refine v_gF (K := fun w => w) C Cxt.id (v := .ref (h 1)) 0 fl_X7_40 lm_0 rfl dX7_why_57 ?_
                refine v_iload_n C dX7_why_60 rfl ?_
                refine v_iload C dX7_why_61 rfl ?_
                first | refine v_iaddN C dX7_why_63 ?_ | refine v_iadd C dX7_why_63 ?_
                refine v_gP (K := fun w => w) C Cxt.id (x := (some (h (8 + (to_ + i))))) 1 lm_1 (by first | decide | omega) (to_ + i) (if_pos (by omega)) ?_ rfl dX7_why_64 ?_
                · omega
                refine v_gFN (K := fun w => w) C Cxt.id (v := .int (m 4 (to_ + i))) (5 + (to_ + i)) fln_X7_80 (plc_at (by omega)) rfl dX7_why_65 ?_
                rw [hL _ (by omega)]
                refine v_if_eqB C 73 dX7_why_68 (by decide) (fun c68 => ?_) (fun c68 => ?_)
                · first | refine v_iinc1 C (lo2 := [some _, some _, some _, some _, some _, none, some _]) dX7_why_73 rfl rfl rfl ?_ | refine v_iinc C (lo2 := [some _, some _, some _, some _, some _, none, some _]) dX7_why_73 rfl rfl rfl rfl ?_
                  refine v_goto C 50 dX7_why_76 (by decide) ?_
                  have hs : anyG (lockB m) (to_ + i) (len - i) = (lockB m (to_ + i) || anyG (lockB m) (to_ + (i + 1)) (len - (i + 1))) := by rw [show len - i = (len - (i + 1)) + 1 by omega]; rfl
                  rw [hs, c68, Bool.false_or] at i2
                  exact ih50 (i + 1) (by show len - (i + 1) < len - i; omega) ⟨by show i + 1 ≤ len; omega, i2⟩
                · refine v_iconst (v := nI 3) C dX7_why_71 (by decide) ?_
                  refine v_iretG C F (by first | rfl | exact bI_nar _) dX7_why_72 (by first | exact Nat.le_of_ble_eq_true rfl | omega) (by first | exact Nat.le_of_ble_eq_true rfl | omega) rfl (List.Perm.refl _) ?_
                  exact ⟨by
                    have hs : anyG (lockB m) (to_ + i) (len - i) = (lockB m (to_ + i) || anyG (lockB m) (to_ + (i + 1)) (len - (i + 1))) := by rw [show len - i = (len - (i + 1)) + 1 by omega]; rfl
                    rw [hs, c68, Bool.true_or] at i2
                    unfold whyN
                    rw [if_pos ⟨by omega, by omega⟩, if_pos i2.symm], rfl⟩
            exact L50 0 ⟨Nat.zero_le _, rfl⟩
          · have d42 : n < to_ + len := (lg_gtN (by omega) (by omega) (by omega)).mp (by omega)
            refine v_iconst (v := nI 2) C dX7_why_45 (by decide) ?_
            refine v_iretG C F (by first | rfl | exact bI_nar _) dX7_why_46 (by first | exact Nat.le_of_ble_eq_true rfl | omega) (by first | exact Nat.le_of_ble_eq_true rfl | omega) rfl (List.Perm.refl _) ?_
            first
            | exact ⟨by unfold whyN; rw [if_neg (by omega)], rfl⟩
  · exfalso
    omega
set_option maxHeartbeats 16000000 in
theorem c_X7_left {l : Launch} (hl : l.stackTraces = false) {κ : Kp} {h : Nat → Nat} {n : Nat} {m : Mg} {e : Nat → Nat} {p : Int32} {fr to_ len : Nat} (h14 : n ≤ 14) (hf : fr + len ≤ n) (ht : to_ + len ≤ n) (hl1 : 0 < len) : CtG SS MM l κ yX7_left cX7_left 7 (some (FieldType.array FieldType.int)) 0 1 2 [.ref (h 0), .int (nI fr), .int (nI to_), .int (nI len)] (lmW κ h n (m, e, p)) rr (fun r w => w = [cI κ r 2 (upd (upd (fun _ => 0) 0 (nI (leftN n fr to_ len).1)) 1 (nI (leftN n fr to_ len).2 - nI 1))] ++ lmW κ h n (m, e, p)) (fun _ _ => False) := by
  refine CtG.of (own := RX7) (by decide) rfl hl (by intro v hv; simp only [List.mem_cons, List.not_mem_nil, or_false] at hv; first | (rcases hv with rfl | rfl | rfl | rfl | rfl | rfl <;> rfl) | (rcases hv with rfl | rfl | rfl | rfl | rfl <;> rfl) | (rcases hv with rfl | rfl | rfl | rfl <;> rfl) | (rcases hv with rfl | rfl | rfl <;> rfl) | (rcases hv with rfl | rfl <;> rfl) | (subst hv; rfl) | exact hv.elim) (Nat.le_of_ble_eq_true rfl) (fun X hxl hxk C F NH hnm => ?_)
  subst hxl hxk
  show V X iW 0 [some (.ref (h 0)), some (.int (nI fr)), some (.int (nI to_)), some (.int (nI len)), none, none, none] [] (lmW (xK X) h n (m, e, p)) 0 0
  refine v_aload_n C dX7_left_0 rfl ?_
  refine v_gF (K := fun w => w) C Cxt.id (v := .ref (h 1)) 0 fl_X7_40 lm_0 rfl dX7_left_1 ?_
  refine v_lenA (K := fun w => w) C Cxt.id (N := n) 3 1 rfl lm_1 rfl dX7_left_4 ?_
  refine v_istore C (lo2 := [some _, some _, some _, some _, some _, none, none]) dX7_left_5 rfl (Nat.le_of_ble_eq_true rfl) rfl ?_
  refine v_iconst (v := (-1)) C dX7_left_7 (by decide) ?_
  refine v_istore C (lo2 := [some _, some _, some _, some _, some _, some _, none]) dX7_left_8 rfl (Nat.le_of_ble_eq_true rfl) rfl ?_
  refine v_iload_n C dX7_left_10 rfl ?_
  refine v_istore C (lo2 := [some _, some _, some _, some _, some _, some _, some _]) dX7_left_11 rfl (Nat.le_of_ble_eq_true rfl) rfl ?_
  have L13 : ∀ (t : Nat), (fun t => fr ≤ t ∧ t ≤ fr + len) t → (fun t : Nat => V X iW 13 [some (.ref (h 0)), some (.int (nI fr)), some (.int (nI to_)), some (.int (nI len)), some (.int (nI (leftI n fr to_ len t).1)), some (.int (nI (leftI n fr to_ len t).2 - nI 1)), some (.int (nI t))] [] (lmW (xK X) h n (m, e, p)) 0 0) t := by
    refine v_ind (fun t : Nat => fr + len - t) ?_
    rintro i ih13 hI13
    try dsimp only at hI13 ⊢
    obtain ⟨i1, i2⟩ := hI13
    refine v_iload C dX7_left_13 rfl ?_
    refine v_iload_n C dX7_left_15 rfl ?_
    refine v_iload_n C dX7_left_16 rfl ?_
    first | refine v_iaddN C dX7_left_17 ?_ | refine v_iadd C dX7_left_17 ?_
    first | refine v_icmp_geN C 57 dX7_left_18 (by decide) (by omega) (by omega) (fun c18 => ?_) (fun c18 => ?_) | refine v_icmp_ge C 57 dX7_left_18 (by decide) (fun c18 => ?_) (fun c18 => ?_)
    · refine v_iconst (v := nI 2) C dX7_left_57 (by decide) ?_
      refine v_newI C 2 rfl (by decide) dX7_left_58 (by first | exact Nat.le_of_ble_eq_true rfl | omega) (by first | exact Nat.le_of_ble_eq_true rfl | omega) (fun q => ?_)
      refine v_dup C dX7_left_60 rfl ?_
      refine v_iconst (v := nI 0) C dX7_left_61 (by decide) ?_
      refine v_iload C dX7_left_62 rfl ?_
      refine v_sI (K := fun w => w ++ lmW (xK X) h n (m, e, p)) (ws := [cI (xK X) q 2 (fun _ => 0)]) C (Cxt.r _ Cxt.id) 0 rfl (by first | decide | omega) 0 ?_ rfl rfl dX7_left_64 ?_
      · first | decide | omega
      refine v_dup C dX7_left_65 rfl ?_
      refine v_iconst (v := nI 1) C dX7_left_66 (by decide) ?_
      refine v_iload C dX7_left_67 rfl ?_
      refine v_sI (K := fun w => w ++ lmW (xK X) h n (m, e, p)) (ws := [cI (xK X) q 2 (upd (fun _ => 0) 0 (nI (leftI n fr to_ len i).1))]) C (Cxt.r _ Cxt.id) 0 rfl (by first | decide | omega) 1 ?_ rfl rfl dX7_left_69 ?_
      · first | decide | omega
      have hie : i = fr + len := by omega
      subst hie
      refine v_aretG C (x := (some q)) F (Or.inr ⟨_, rfl⟩) dX7_left_70 (by first | exact Nat.le_of_ble_eq_true rfl | omega) (by first | exact Nat.le_of_ble_eq_true rfl | omega) rfl (List.Perm.refl _) ?_
      rw [← left_end (n := n) (to_ := to_) hl1]
      rfl
    · refine v_iload C dX7_left_21 rfl ?_
      refine v_iload_n C dX7_left_23 rfl ?_
      first | refine v_icmp_ltN C 38 dX7_left_24 (by decide) (by omega) (by omega) (fun c24 => ?_) (fun c24 => ?_) | refine v_icmp_lt C 38 dX7_left_24 (by decide) (fun c24 => ?_) (fun c24 => ?_)
      · have hz := left_out (n := n) (fr := fr) (to_ := to_) (len := len) i1 c18 (Or.inl c24) hf
        refine v_iload C dX7_left_38 rfl ?_
        refine v_iload C dX7_left_40 rfl ?_
        refine v_mmin (z := nI (min (leftI n fr to_ len i).1 i)) C ml_X7_73 w_minS w_mI w_minC rfl (Nat.le_of_ble_eq_true rfl) dX7_left_42 (by first | exact Nat.le_of_ble_eq_true rfl | omega) (by first | exact Nat.le_of_ble_eq_true rfl | omega) ?_ ?_
        · have hz1 := left_le (i := i) h14 hf ht
          exact nI_min (by omega) (by omega)
        refine v_istore C (lo2 := [some _, some _, some _, some _, some _, some _, some _]) dX7_left_45 rfl (Nat.le_of_ble_eq_true rfl) rfl ?_
        refine v_iload C dX7_left_47 rfl ?_
        refine v_istore C (lo2 := [some _, some _, some _, some _, some _, some _, some _]) dX7_left_49 rfl (Nat.le_of_ble_eq_true rfl) rfl ?_
        first | refine v_iinc1 C (lo2 := [some _, some _, some _, some _, some _, some _, some _]) dX7_left_51 rfl rfl rfl ?_ | refine v_iinc C (lo2 := [some _, some _, some _, some _, some _, some _, some _]) dX7_left_51 rfl rfl rfl rfl ?_
        refine v_goto C 13 dX7_left_54 (by decide) ?_
        refine V_loc (lo2 := [some (.ref (h 0)), some (.int (nI fr)), some (.int (nI to_)), some (.int (nI len)), some (.int (nI (leftI n fr to_ len (i + 1)).1)), some (.int (nI (leftI n fr to_ len (i + 1)).2 - nI 1)), some (.int (nI (i + 1)))]) (by rw [hz]; try (dsimp only; rw [nI_sub (by omega : 1 ≤ i + 1), Nat.add_sub_cancel])) ?_
        exact ih13 (i + 1) (by show fr + len - (i + 1) < fr + len - i; omega) ⟨by show fr ≤ i + 1; omega, by show i + 1 ≤ fr + len; omega⟩
      · refine v_iload C dX7_left_27 rfl ?_
        refine v_iload_n C dX7_left_29 rfl ?_
        refine v_iload_n C dX7_left_30 rfl ?_
        first | refine v_iaddN C dX7_left_31 ?_ | refine v_iadd C dX7_left_31 ?_
        first | refine v_icmp_geN C 38 dX7_left_32 (by decide) (by omega) (by omega) (fun c32 => ?_) (fun c32 => ?_) | refine v_icmp_ge C 38 dX7_left_32 (by decide) (fun c32 => ?_) (fun c32 => ?_)
        · have hz := left_out (n := n) (fr := fr) (to_ := to_) (len := len) i1 c18 (Or.inr c32) hf
          refine v_iload C dX7_left_38 rfl ?_
          refine v_iload C dX7_left_40 rfl ?_
          refine v_mmin (z := nI (min (leftI n fr to_ len i).1 i)) C ml_X7_73 w_minS w_mI w_minC rfl (Nat.le_of_ble_eq_true rfl) dX7_left_42 (by first | exact Nat.le_of_ble_eq_true rfl | omega) (by first | exact Nat.le_of_ble_eq_true rfl | omega) ?_ ?_
          · have hz1 := left_le (i := i) h14 hf ht
            exact nI_min (by omega) (by omega)
          refine v_istore C (lo2 := [some _, some _, some _, some _, some _, some _, some _]) dX7_left_45 rfl (Nat.le_of_ble_eq_true rfl) rfl ?_
          refine v_iload C dX7_left_47 rfl ?_
          refine v_istore C (lo2 := [some _, some _, some _, some _, some _, some _, some _]) dX7_left_49 rfl (Nat.le_of_ble_eq_true rfl) rfl ?_
          first | refine v_iinc1 C (lo2 := [some _, some _, some _, some _, some _, some _, some _]) dX7_left_51 rfl rfl rfl ?_ | refine v_iinc C (lo2 := [some _, some _, some _, some _, some _, some _, some _]) dX7_left_51 rfl rfl rfl rfl ?_
          refine v_goto C 13 dX7_left_54 (by decide) ?_
          refine V_loc (lo2 := [some (.ref (h 0)), some (.int (nI fr)), some (.int (nI to_)), some (.int (nI len)), some (.int (nI (leftI n fr to_ len (i + 1)).1)), some (.int (nI (leftI n fr to_ len (i + 1)).2 - nI 1)), some (.int (nI (i + 1)))]) (by rw [hz]; try (dsimp only; rw [nI_sub (by omega : 1 ≤ i + 1), Nat.add_sub_cancel])) ?_
          exact ih13 (i + 1) (by show fr + len - (i + 1) < fr + len - i; omega) ⟨by show fr ≤ i + 1; omega, by show i + 1 ≤ fr + len; omega⟩
        · have hz := left_in (n := n) (fr := fr) (to_ := to_) (len := len) i1 c18 c24 c32
          refine v_goto C 51 dX7_left_35 (by decide) ?_
          first | refine v_iinc1 C (lo2 := [some _, some _, some _, some _, some _, some _, some _]) dX7_left_51 rfl rfl rfl ?_ | refine v_iinc C (lo2 := [some _, some _, some _, some _, some _, some _, some _]) dX7_left_51 rfl rfl rfl rfl ?_
          refine v_goto C 13 dX7_left_54 (by decide) ?_
          refine V_loc (lo2 := [some (.ref (h 0)), some (.int (nI fr)), some (.int (nI to_)), some (.int (nI len)), some (.int (nI (leftI n fr to_ len (i + 1)).1)), some (.int (nI (leftI n fr to_ len (i + 1)).2 - nI 1)), some (.int (nI (i + 1)))]) (by rw [hz]; try (dsimp only; rw [nI_sub (by omega : 1 ≤ i + 1), Nat.add_sub_cancel])) ?_
          exact ih13 (i + 1) (by show fr + len - (i + 1) < fr + len - i; omega) ⟨by show fr ≤ i + 1; omega, by show i + 1 ≤ fr + len; omega⟩
  refine V_loc (lo2 := [some (.ref (h 0)), some (.int (nI fr)), some (.int (nI to_)), some (.int (nI len)), some (.int (nI (leftI n fr to_ len fr).1)), some (.int (nI (leftI n fr to_ len fr).2 - nI 1)), some (.int (nI fr))]) (by rw [left_0]; rfl) ?_
  exact L13 fr ⟨Nat.le_refl _, Nat.le_add_right _ _⟩
set_option maxHeartbeats 16000000 in
theorem c_X7_exchange {l : Launch} (hl : l.stackTraces = false) {κ : Kp} {h : Nat → Nat} {n : Nat} {m : Mg} {e : Nat → Nat} {p : Int32} {a b : Nat} (hI : IM m n) (h14 : n ≤ 14) (hE : EvOK m) (ha : a < n) (hb : b < n) (hab : ¬ a = b) : CtG SS MM l κ yX7_exchange cX7_exchange 10 (some FieldType.int) 17 28 84 [.ref (h 0), .ref (h (8 + a)), .ref (h (8 + b))] (lmW κ h n (m, e, p)) ri (fun r w => r = nI (swapM n a b m).1 ∧ ∃ e', w = lmW κ h n ((swapM n a b m).2, e', p)) (fun _ _ => False) := by
  refine CtG.of (own := RX7) (by decide) rfl hl (by intro v hv; simp only [List.mem_cons, List.not_mem_nil, or_false] at hv; first | (rcases hv with rfl | rfl | rfl | rfl | rfl | rfl <;> rfl) | (rcases hv with rfl | rfl | rfl | rfl | rfl <;> rfl) | (rcases hv with rfl | rfl | rfl | rfl <;> rfl) | (rcases hv with rfl | rfl | rfl <;> rfl) | (rcases hv with rfl | rfl <;> rfl) | (subst hv; rfl) | exact hv.elim) (Nat.le_of_ble_eq_true rfl) (fun X hxl hxk C F NH hnm => ?_)
  subst hxl hxk
  show V X iW 0 [some (.ref (h 0)), some (.ref (h (8 + a))), some (.ref (h (8 + b))), none, none, none, none, none, none, none] [] (lmW (xK X) h n (m, e, p)) 0 0
  refine V_dis (fun hdis => ?_)
  have hinj : ∀ i j, i < n → j < n → h (8 + i) = h (8 + j) → i = j := fun i j hi hj he => by have z := hdis.1 (5 + i) (5 + j) _ _ (plc_at hi) (plc_at hj) he; omega
  clear hdis
  have hdp := depM_ok (T := two a b) hI
  refine v_aload_n C dX7_exchange_0 rfl ?_
  refine v_gVi (K := fun w => w) C Cxt.id (5 + a) (c_X8_value hl hI h14 ha) ym_X8_value ml_X7_105 (plc_at ha) rfl rfl rfl dX7_exchange_1 (by first | exact Nat.le_of_ble_eq_true rfl | omega) (by first | exact Nat.le_of_ble_eq_true rfl | omega) (by first | exact Nat.le_of_ble_eq_true rfl | omega) (Nat.le_of_ble_eq_true rfl) (fun _ _ hu => hu.elim) (fun r u hu => ?_)
  obtain ⟨rfl, rfl⟩ := hu
  refine v_istore_n C (lo2 := [some _, some _, some _, some _, none, none, none, none, none, none]) dX7_exchange_4 rfl (Nat.le_of_ble_eq_true rfl) rfl ?_
  refine v_aload_n C dX7_exchange_5 rfl ?_
  refine v_gVi (K := fun w => w) C Cxt.id (5 + b) (c_X8_value hl hI h14 hb) ym_X8_value ml_X7_105 (plc_at hb) rfl rfl rfl dX7_exchange_6 (by first | exact Nat.le_of_ble_eq_true rfl | omega) (by first | exact Nat.le_of_ble_eq_true rfl | omega) (by first | exact Nat.le_of_ble_eq_true rfl | omega) (Nat.le_of_ble_eq_true rfl) (fun _ _ hu => hu.elim) (fun r u hu => ?_)
  obtain ⟨rfl, rfl⟩ := hu
  refine v_istore C (lo2 := [some _, some _, some _, some _, some _, none, none, none, none, none]) dX7_exchange_9 rfl (Nat.le_of_ble_eq_true rfl) rfl ?_
  refine v_iconst (v := nI 0) C dX7_exchange_11 (by decide) ?_
  refine v_istore C (lo2 := [some _, some _, some _, some _, some _, some _, none, none, none, none]) dX7_exchange_12 rfl (Nat.le_of_ble_eq_true rfl) rfl ?_
  refine v_aload_n C dX7_exchange_14 rfl ?_
  refine v_gF (K := fun w => w) C Cxt.id (v := .ref (h 1)) 0 fl_X7_40 lm_0 rfl dX7_exchange_15 ?_
  refine v_astore C (lo2 := [some _, some _, some _, some _, some _, some _, some _, none, none, none]) dX7_exchange_18 rfl (Nat.le_of_ble_eq_true rfl) rfl ?_
  refine v_aload C dX7_exchange_20 rfl ?_
  refine v_lenA (K := fun w => w) C Cxt.id (N := n) 3 1 rfl lm_1 rfl dX7_exchange_22 ?_
  refine v_istore C (lo2 := [some _, some _, some _, some _, some _, some _, some _, some _, none, none]) dX7_exchange_23 rfl (Nat.le_of_ble_eq_true rfl) rfl ?_
  refine v_iconst (v := nI 0) C dX7_exchange_25 (by decide) ?_
  refine v_istore C (lo2 := [some _, some _, some _, some _, some _, some _, some _, some _, some _, none]) dX7_exchange_26 rfl (Nat.le_of_ble_eq_true rfl) rfl ?_
  have L28 : ∀ (t : Nat × Nat × Mg × (Nat → Nat)), (fun t => forG (depS (two a b)) t.1 (n - t.1) (t.2.1, t.2.2.1) = depM (two a b) n m ∧ Pd n m t.2.2.1 ∧ t.2.1 ≤ t.1 ∧ t.1 ≤ n) t → (fun t : Nat × Nat × Mg × (Nat → Nat) => V X iW 28 [some (.ref (h 0)), some (.ref (h (8 + a))), some (.ref (h (8 + b))), some (.int (valM m a)), some (.int (valM m b)), some (.int (nI t.2.1)), some (.ref (h 1)), some (.int (nI n)), some (.int (nI t.1)), none] [] (lmW (xK X) h n (t.2.2.1, t.2.2.2, p)) t.2.1 (3 * t.2.1)) t := by
    refine v_ind (fun t : Nat × Nat × Mg × (Nat → Nat) => n - t.1) ?_
    rintro ⟨i, c, y, e⟩ ih28 hI28
    try dsimp only at hI28 ⊢
    obtain ⟨i1, i2, i3, i4⟩ := hI28
    have hIy := i2.im hI
    have hEy := i2.1.2.2.2.2 hE
    refine v_iload C dX7_exchange_28 rfl ?_
    refine v_iload C dX7_exchange_30 rfl ?_
    first | refine v_icmp_geN C 91 dX7_exchange_32 (by decide) (by omega) (by omega) (fun c32 => ?_) (fun c32 => ?_) | refine v_icmp_ge C 91 dX7_exchange_32 (by decide) (fun c32 => ?_) (fun c32 => ?_)
    · refine v_aload_n C dX7_exchange_91 rfl ?_
      refine v_gF (K := fun w => w) C Cxt.id (v := .ref (h 1)) 0 fl_X7_40 lm_0 rfl dX7_exchange_92 ?_
      refine v_astore C (lo2 := [some _, some _, some _, some _, some _, some _, some _, some _, some _, none]) dX7_exchange_95 rfl (Nat.le_of_ble_eq_true rfl) rfl ?_
      refine v_aload C dX7_exchange_97 rfl ?_
      refine v_lenA (K := fun w => w) C Cxt.id (N := n) 3 1 rfl lm_1 rfl dX7_exchange_99 ?_
      refine v_istore C (lo2 := [some _, some _, some _, some _, some _, some _, some _, some _, some _, none]) dX7_exchange_100 rfl (Nat.le_of_ble_eq_true rfl) rfl ?_
      refine v_iconst (v := nI 0) C dX7_exchange_102 (by decide) ?_
      refine v_istore C (lo2 := [some _, some _, some _, some _, some _, some _, some _, some _, some _, none]) dX7_exchange_103 rfl (Nat.le_of_ble_eq_true rfl) rfl ?_
      have L105 : ∀ (t : Nat × Mg × (Nat → Nat)), (fun t => forG (drpS (two a b)) t.1 (n - t.1) t.2.1 = drpM (two a b) n (depM (two a b) n m).2 ∧ EvOK t.2.1 ∧ t.1 ≤ n) t → (fun t : Nat × Mg × (Nat → Nat) => V X iW 105 [some (.ref (h 0)), some (.ref (h (8 + a))), some (.ref (h (8 + b))), some (.int (valM m a)), some (.int (valM m b)), some (.int (nI (depM (two a b) n m).1)), some (.ref (h 1)), some (.int (nI n)), some (.int (nI t.1)), none] [] (lmW (xK X) h n (t.2.1, t.2.2, p)) (14 + t.1) (42 + 3 * t.1)) t := by
        refine v_ind (fun t : Nat × Mg × (Nat → Nat) => n - t.1) ?_
        rintro ⟨i, y, e⟩ ih105 hI105
        try dsimp only at hI105 ⊢
        obtain ⟨i1, hEy, i4⟩ := hI105
        refine v_iload C dX7_exchange_105 rfl ?_
        refine v_iload C dX7_exchange_107 rfl ?_
        first | refine v_icmp_geN C 143 dX7_exchange_109 (by decide) (by omega) (by omega) (fun c109 => ?_) (fun c109 => ?_) | refine v_icmp_ge C 143 dX7_exchange_109 (by decide) (fun c109 => ?_) (fun c109 => ?_)
        · refine v_aload_n C dX7_exchange_143 rfl ?_
          refine v_iload C dX7_exchange_144 rfl ?_
          refine v_pFN (K := fun w => w) C Cxt.id (5 + a) fln_X7_65 fw_X8_1 (plc_at ha) rfl rfl (Nat.le_of_ble_eq_true rfl) (set_stored ha) dX7_exchange_146 ?_
          refine v_aload_n C dX7_exchange_149 rfl ?_
          refine v_iload_n C dX7_exchange_150 rfl ?_
          refine v_pFN (K := fun w => w) C Cxt.id (5 + b) fln_X7_65 fw_X8_1 (plc_at hb) rfl rfl (Nat.le_of_ble_eq_true rfl) (set_stored hb) dX7_exchange_151 ?_
          refine v_iload C dX7_exchange_154 rfl ?_
          refine v_iretG C F (by first | rfl | exact bI_nar _) dX7_exchange_156 (by first | exact Nat.le_of_ble_eq_true rfl | omega) (by first | exact Nat.le_of_ble_eq_true rfl | omega) rfl (List.Perm.refl _) ?_
          refine ⟨rfl, e, ?_⟩
          have hd4 : y = drpM (two a b) n (depM (two a b) n m).2 := by rw [← i1, forG_0 (by omega)]
          rw [hd4]
          rfl
        · have hin : i < n := c109
          refine v_aload C dX7_exchange_112 rfl ?_
          refine v_iload C dX7_exchange_114 rfl ?_
          refine v_gP (K := fun w => w) C Cxt.id (x := (some (h (8 + i)))) 1 lm_1 (by first | decide | omega) i (if_pos (by omega)) ?_ rfl dX7_exchange_116 ?_
          · omega
          refine v_astore C (lo2 := [some _, some _, some _, some _, some _, some _, some _, some _, some _, some _]) dX7_exchange_117 rfl (Nat.le_of_ble_eq_true rfl) rfl ?_
          refine v_aload C dX7_exchange_119 rfl ?_
          refine v_aload_n C dX7_exchange_121 rfl ?_
          refine v_acmp_eq C (x := (some (h (8 + i)))) (y := (some (h (8 + a)))) 131 dX7_exchange_122 (by decide) (fun c122 => ?_) (fun c122 => ?_)
          · have hia : i = a := hinj i a hin ha (Option.some.inj c122)
            have hz : drpS (two a b) i y = dropO y i := if_pos (decide_eq_true (Or.inl hia))
            refine v_aload_n C dX7_exchange_131 rfl ?_
            refine v_aload C dX7_exchange_132 rfl ?_
            refine v_gVv (K := fun w => w) C Cxt.id 0 (c_X7_drop hl hEy hin) ym_X7_drop ml_X7_117 lm_0 rfl rfl rfl dX7_exchange_134 (by first | exact Nat.le_of_ble_eq_true rfl | omega) (by first | exact Nat.le_of_ble_eq_true rfl | omega) (by first | exact Nat.le_of_ble_eq_true rfl | omega) (Nat.le_of_ble_eq_true rfl) (fun _ _ hu => hu.elim) (fun r u hu => ?_)
            obtain ⟨e2, rfl⟩ := hu
            first | refine v_iinc1 C (lo2 := [some _, some _, some _, some _, some _, some _, some _, some _, some _, some _]) dX7_exchange_137 rfl rfl rfl ?_ | refine v_iinc C (lo2 := [some _, some _, some _, some _, some _, some _, some _, some _, some _, some _]) dX7_exchange_137 rfl rfl rfl rfl ?_
            refine v_goto C 105 dX7_exchange_140 (by decide) ?_
            refine V.sub (lo2 := [some _, some _, some _, some _, some _, some _, some _, some _, some _, none]) ⟨rfl, rfl, rfl, rfl, rfl, rfl, rfl, rfl, rfl, trivial⟩ ?_
            have hib : i < n := hin
            rw [forG_s hib, hz] at i1
            refine V.wid (k2 := 14 + (i + 1)) (n2 := 42 + 3 * (i + 1)) (by omega) (by omega) ?_
            first
            | exact ih105 (i + 1, y, e) (by show n - (i + 1) < n - i; omega) ⟨i1, hEy, by show i + 1 ≤ n; omega⟩
            | exact ih105 (i + 1, dropO y i, e2) (by show n - (i + 1) < n - i; omega) ⟨i1, drop_ev hEy, by show i + 1 ≤ n; omega⟩
          · have hia : ¬ i = a := fun z => c122 (by rw [z])
            refine v_aload C dX7_exchange_125 rfl ?_
            refine v_aload_n C dX7_exchange_127 rfl ?_
            refine v_acmp_ne C (x := (some (h (8 + i)))) (y := (some (h (8 + b)))) 137 dX7_exchange_128 (by decide) (fun c128 => ?_) (fun c128 => ?_)
            · have hib2 : ¬ i = b := fun z => c128 (by rw [z])
              have hz : drpS (two a b) i y = y := if_neg (by rw [show two a b i = false from decide_eq_false (fun z => z.elim hia hib2)]; exact Bool.false_ne_true)
              first | refine v_iinc1 C (lo2 := [some _, some _, some _, some _, some _, some _, some _, some _, some _, some _]) dX7_exchange_137 rfl rfl rfl ?_ | refine v_iinc C (lo2 := [some _, some _, some _, some _, some _, some _, some _, some _, some _, some _]) dX7_exchange_137 rfl rfl rfl rfl ?_
              refine v_goto C 105 dX7_exchange_140 (by decide) ?_
              refine V.sub (lo2 := [some _, some _, some _, some _, some _, some _, some _, some _, some _, none]) ⟨rfl, rfl, rfl, rfl, rfl, rfl, rfl, rfl, rfl, trivial⟩ ?_
              have hib : i < n := hin
              rw [forG_s hib, hz] at i1
              refine V.wid (k2 := 14 + (i + 1)) (n2 := 42 + 3 * (i + 1)) (by omega) (by omega) ?_
              first
              | exact ih105 (i + 1, y, e) (by show n - (i + 1) < n - i; omega) ⟨i1, hEy, by show i + 1 ≤ n; omega⟩
              | exact ih105 (i + 1, dropO y i, e2) (by show n - (i + 1) < n - i; omega) ⟨i1, drop_ev hEy, by show i + 1 ≤ n; omega⟩
            · have hib2 : i = b := hinj i b hin hb (Option.some.inj c128)
              have hz : drpS (two a b) i y = dropO y i := if_pos (decide_eq_true (Or.inr hib2))
              refine v_aload_n C dX7_exchange_131 rfl ?_
              refine v_aload C dX7_exchange_132 rfl ?_
              refine v_gVv (K := fun w => w) C Cxt.id 0 (c_X7_drop hl hEy hin) ym_X7_drop ml_X7_117 lm_0 rfl rfl rfl dX7_exchange_134 (by first | exact Nat.le_of_ble_eq_true rfl | omega) (by first | exact Nat.le_of_ble_eq_true rfl | omega) (by first | exact Nat.le_of_ble_eq_true rfl | omega) (Nat.le_of_ble_eq_true rfl) (fun _ _ hu => hu.elim) (fun r u hu => ?_)
              obtain ⟨e2, rfl⟩ := hu
              first | refine v_iinc1 C (lo2 := [some _, some _, some _, some _, some _, some _, some _, some _, some _, some _]) dX7_exchange_137 rfl rfl rfl ?_ | refine v_iinc C (lo2 := [some _, some _, some _, some _, some _, some _, some _, some _, some _, some _]) dX7_exchange_137 rfl rfl rfl rfl ?_
              refine v_goto C 105 dX7_exchange_140 (by decide) ?_
              refine V.sub (lo2 := [some _, some _, some _, some _, some _, some _, some _, some _, some _, none]) ⟨rfl, rfl, rfl, rfl, rfl, rfl, rfl, rfl, rfl, trivial⟩ ?_
              have hib : i < n := hin
              rw [forG_s hib, hz] at i1
              refine V.wid (k2 := 14 + (i + 1)) (n2 := 42 + 3 * (i + 1)) (by omega) (by omega) ?_
              first
              | exact ih105 (i + 1, y, e) (by show n - (i + 1) < n - i; omega) ⟨i1, hEy, by show i + 1 ≤ n; omega⟩
              | exact ih105 (i + 1, dropO y i, e2) (by show n - (i + 1) < n - i; omega) ⟨i1, drop_ev hEy, by show i + 1 ≤ n; omega⟩
      have hd1 : (c, y) = depM (two a b) n m := by rw [← i1, forG_0 (by omega)]
      have hd2 : y = (depM (two a b) n m).2 := by rw [← hd1]
      have hd3 : c = (depM (two a b) n m).1 := by rw [← hd1]
      rw [hd3]
      refine V.wid (k2 := 14 + 0) (n2 := 42 + 3 * 0) (by omega) (by omega) ?_
      exact L105 (0, y, e) ⟨by rw [hd2]; rfl, hEy, Nat.zero_le _⟩
    · have hin : i < n := c32
      refine v_aload C dX7_exchange_35 rfl ?_
      refine v_iload C dX7_exchange_37 rfl ?_
      refine v_gP (K := fun w => w) C Cxt.id (x := (some (h (8 + i)))) 1 lm_1 (by first | decide | omega) i (if_pos (by omega)) ?_ rfl dX7_exchange_39 ?_
      · omega
      refine v_astore C (lo2 := [some _, some _, some _, some _, some _, some _, some _, some _, some _, some _]) dX7_exchange_40 rfl (Nat.le_of_ble_eq_true rfl) rfl ?_
      refine v_aload C dX7_exchange_42 rfl ?_
      refine v_aload_n C dX7_exchange_44 rfl ?_
      refine v_acmp_eq C (x := (some (h (8 + i)))) (y := (some (h (8 + a)))) 85 dX7_exchange_45 (by decide) (fun c45 => ?_) (fun c45 => ?_)
      · have hia : i = a := hinj i a hin ha (Option.some.inj c45)
        have hz : depS (two a b) i (c, y) = (c, y) := by
          unfold depS
          dsimp only
          rw [show two a b i = true from decide_eq_true (Or.inl hia)]
          first | rfl | simp
        first | refine v_iinc1 C (lo2 := [some _, some _, some _, some _, some _, some _, some _, some _, some _, some _]) dX7_exchange_85 rfl rfl rfl ?_ | refine v_iinc C (lo2 := [some _, some _, some _, some _, some _, some _, some _, some _, some _, some _]) dX7_exchange_85 rfl rfl rfl rfl ?_
        refine v_goto C 28 dX7_exchange_88 (by decide) ?_
        refine V.sub (lo2 := [some _, some _, some _, some _, some _, some _, some _, some _, some _, none]) ⟨rfl, rfl, rfl, rfl, rfl, rfl, rfl, rfl, rfl, trivial⟩ ?_
        have hib : i < n := hin
        rw [forG_s hib, hz] at i1
        first
        | exact ih28 (i + 1, c, y, e) (by show n - (i + 1) < n - i; omega) ⟨i1, i2, by show c ≤ i + 1; omega, by show i + 1 ≤ n; omega⟩
        | (refine V.wid (k2 := c + 1) (n2 := 3 * (c + 1)) (by omega) (by omega) ?_
           exact ih28 (i + 1, c + 1, payM 2 y i, e1) (by show n - (i + 1) < n - i; omega) ⟨i1, (show Pd n m (payM 2 y i) from i2.trans hI (payM_Pd hib)), by show c + 1 ≤ i + 1; omega, by show i + 1 ≤ n; omega⟩)
      · have hia : ¬ i = a := fun z => c45 (by rw [z])
        refine v_aload C dX7_exchange_48 rfl ?_
        refine v_aload_n C dX7_exchange_50 rfl ?_
        refine v_acmp_eq C (x := (some (h (8 + i)))) (y := (some (h (8 + b)))) 85 dX7_exchange_51 (by decide) (fun c51 => ?_) (fun c51 => ?_)
        · have hib2 : i = b := hinj i b hin hb (Option.some.inj c51)
          have hz : depS (two a b) i (c, y) = (c, y) := by
            unfold depS
            dsimp only
            rw [show two a b i = true from decide_eq_true (Or.inr hib2)]
            first | rfl | simp
          first | refine v_iinc1 C (lo2 := [some _, some _, some _, some _, some _, some _, some _, some _, some _, some _]) dX7_exchange_85 rfl rfl rfl ?_ | refine v_iinc C (lo2 := [some _, some _, some _, some _, some _, some _, some _, some _, some _, some _]) dX7_exchange_85 rfl rfl rfl rfl ?_
          refine v_goto C 28 dX7_exchange_88 (by decide) ?_
          refine V.sub (lo2 := [some _, some _, some _, some _, some _, some _, some _, some _, some _, none]) ⟨rfl, rfl, rfl, rfl, rfl, rfl, rfl, rfl, rfl, trivial⟩ ?_
          have hib : i < n := hin
          rw [forG_s hib, hz] at i1
          first
          | exact ih28 (i + 1, c, y, e) (by show n - (i + 1) < n - i; omega) ⟨i1, i2, by show c ≤ i + 1; omega, by show i + 1 ≤ n; omega⟩
          | (refine V.wid (k2 := c + 1) (n2 := 3 * (c + 1)) (by omega) (by omega) ?_
             exact ih28 (i + 1, c + 1, payM 2 y i, e1) (by show n - (i + 1) < n - i; omega) ⟨i1, (show Pd n m (payM 2 y i) from i2.trans hI (payM_Pd hib)), by show c + 1 ≤ i + 1; omega, by show i + 1 ≤ n; omega⟩)
        · have hib2 : ¬ i = b := fun z => c51 (by rw [z])
          have hT : two a b i = false := decide_eq_false (fun z => z.elim hia hib2)
          refine v_aload C dX7_exchange_54 rfl ?_
          refine v_gFN (K := fun w => w) C Cxt.id (v := va_rf (srcV h y i)) (5 + i) fln_X7_109 (plc_at hin) rfl dX7_exchange_56 ?_
          refine v_aload_n C dX7_exchange_59 rfl ?_
          refine v_acmp_eq C (x := (srcV h y i)) (y := (some (h (8 + a)))) 75 dX7_exchange_60 (by decide) (fun c60 => ?_) (fun c60 => ?_)
          · obtain ⟨ho, hsa⟩ := srcV_yes c60
            have hs := IM_src hIy hin ho
            have hsa := hinj _ _ hs.1 ha hsa.symm
            have hz : depS (two a b) i (c, y) = (c + 1, payM 2 y i) := by
              unfold depS
              dsimp only
              rw [hT, owb_t.mpr ho, show two a b (src y i) = true from decide_eq_true (Or.inl hsa)]
              rfl
            refine v_aload_n C dX7_exchange_75 rfl ?_
            refine v_aload C dX7_exchange_76 rfl ?_
            refine v_iconst (v := nI 2) C dX7_exchange_78 (by decide) ?_
            refine v_gVv (K := fun w => w) C Cxt.id 0 (c_X7_pay hl hIy h14 hEy (Or.inr (Or.inl rfl)) hin) ym_X7_pay ml_X7_113 lm_0 rfl rfl rfl dX7_exchange_79 (by first | exact Nat.le_of_ble_eq_true rfl | omega) (by first | exact Nat.le_of_ble_eq_true rfl | omega) (by first | exact Nat.le_of_ble_eq_true rfl | omega) (Nat.le_of_ble_eq_true rfl) (fun _ _ hu => hu.elim) (fun r u hu => ?_)
            obtain ⟨e1, rfl⟩ := hu
            first | refine v_iinc1 C (lo2 := [some _, some _, some _, some _, some _, some _, some _, some _, some _, some _]) dX7_exchange_82 rfl rfl rfl ?_ | refine v_iinc C (lo2 := [some _, some _, some _, some _, some _, some _, some _, some _, some _, some _]) dX7_exchange_82 rfl rfl rfl rfl ?_
            first | refine v_iinc1 C (lo2 := [some _, some _, some _, some _, some _, some _, some _, some _, some _, some _]) dX7_exchange_85 rfl rfl rfl ?_ | refine v_iinc C (lo2 := [some _, some _, some _, some _, some _, some _, some _, some _, some _, some _]) dX7_exchange_85 rfl rfl rfl rfl ?_
            refine v_goto C 28 dX7_exchange_88 (by decide) ?_
            refine V.sub (lo2 := [some _, some _, some _, some _, some _, some _, some _, some _, some _, none]) ⟨rfl, rfl, rfl, rfl, rfl, rfl, rfl, rfl, rfl, trivial⟩ ?_
            have hib : i < n := hin
            rw [forG_s hib, hz] at i1
            first
            | exact ih28 (i + 1, c, y, e) (by show n - (i + 1) < n - i; omega) ⟨i1, i2, by show c ≤ i + 1; omega, by show i + 1 ≤ n; omega⟩
            | (refine V.wid (k2 := c + 1) (n2 := 3 * (c + 1)) (by omega) (by omega) ?_
               exact ih28 (i + 1, c + 1, payM 2 y i, e1) (by show n - (i + 1) < n - i; omega) ⟨i1, (show Pd n m (payM 2 y i) from i2.trans hI (payM_Pd hib)), by show c + 1 ≤ i + 1; omega, by show i + 1 ≤ n; omega⟩)
          · refine v_aload C dX7_exchange_63 rfl ?_
            refine v_gFN (K := fun w => w) C Cxt.id (v := va_rf (srcV h y i)) (5 + i) fln_X7_109 (plc_at hin) rfl dX7_exchange_65 ?_
            refine v_aload_n C dX7_exchange_68 rfl ?_
            refine v_acmp_eq C (x := (srcV h y i)) (y := (some (h (8 + b)))) 75 dX7_exchange_69 (by decide) (fun c69 => ?_) (fun c69 => ?_)
            · obtain ⟨ho, hsb⟩ := srcV_yes c69
              have hs := IM_src hIy hin ho
              have hsb := hinj _ _ hs.1 hb hsb.symm
              have hz : depS (two a b) i (c, y) = (c + 1, payM 2 y i) := by
                unfold depS
                dsimp only
                rw [hT, owb_t.mpr ho, show two a b (src y i) = true from decide_eq_true (Or.inr hsb)]
                rfl
              refine v_aload_n C dX7_exchange_75 rfl ?_
              refine v_aload C dX7_exchange_76 rfl ?_
              refine v_iconst (v := nI 2) C dX7_exchange_78 (by decide) ?_
              refine v_gVv (K := fun w => w) C Cxt.id 0 (c_X7_pay hl hIy h14 hEy (Or.inr (Or.inl rfl)) hin) ym_X7_pay ml_X7_113 lm_0 rfl rfl rfl dX7_exchange_79 (by first | exact Nat.le_of_ble_eq_true rfl | omega) (by first | exact Nat.le_of_ble_eq_true rfl | omega) (by first | exact Nat.le_of_ble_eq_true rfl | omega) (Nat.le_of_ble_eq_true rfl) (fun _ _ hu => hu.elim) (fun r u hu => ?_)
              obtain ⟨e1, rfl⟩ := hu
              first | refine v_iinc1 C (lo2 := [some _, some _, some _, some _, some _, some _, some _, some _, some _, some _]) dX7_exchange_82 rfl rfl rfl ?_ | refine v_iinc C (lo2 := [some _, some _, some _, some _, some _, some _, some _, some _, some _, some _]) dX7_exchange_82 rfl rfl rfl rfl ?_
              first | refine v_iinc1 C (lo2 := [some _, some _, some _, some _, some _, some _, some _, some _, some _, some _]) dX7_exchange_85 rfl rfl rfl ?_ | refine v_iinc C (lo2 := [some _, some _, some _, some _, some _, some _, some _, some _, some _, some _]) dX7_exchange_85 rfl rfl rfl rfl ?_
              refine v_goto C 28 dX7_exchange_88 (by decide) ?_
              refine V.sub (lo2 := [some _, some _, some _, some _, some _, some _, some _, some _, some _, none]) ⟨rfl, rfl, rfl, rfl, rfl, rfl, rfl, rfl, rfl, trivial⟩ ?_
              have hib : i < n := hin
              rw [forG_s hib, hz] at i1
              first
              | exact ih28 (i + 1, c, y, e) (by show n - (i + 1) < n - i; omega) ⟨i1, i2, by show c ≤ i + 1; omega, by show i + 1 ≤ n; omega⟩
              | (refine V.wid (k2 := c + 1) (n2 := 3 * (c + 1)) (by omega) (by omega) ?_
                 exact ih28 (i + 1, c + 1, payM 2 y i, e1) (by show n - (i + 1) < n - i; omega) ⟨i1, (show Pd n m (payM 2 y i) from i2.trans hI (payM_Pd hib)), by show c + 1 ≤ i + 1; omega, by show i + 1 ≤ n; omega⟩)
            · have hz : depS (two a b) i (c, y) = (c, y) := by
                unfold depS
                dsimp only
                cases ho : owb y i with
                | false => simp
                | true =>
                  have ho2 := owb_t.mp ho
                  have hn1 : ¬ src y i = a := fun z => c60 (by rw [srcV_t ho2, z])
                  have hn2 : ¬ src y i = b := fun z => c69 (by rw [srcV_t ho2, z])
                  rw [show two a b (src y i) = false from decide_eq_false (fun z => z.elim hn1 hn2)]
                  simp
              refine v_goto C 85 dX7_exchange_72 (by decide) ?_
              first | refine v_iinc1 C (lo2 := [some _, some _, some _, some _, some _, some _, some _, some _, some _, some _]) dX7_exchange_85 rfl rfl rfl ?_ | refine v_iinc C (lo2 := [some _, some _, some _, some _, some _, some _, some _, some _, some _, some _]) dX7_exchange_85 rfl rfl rfl rfl ?_
              refine v_goto C 28 dX7_exchange_88 (by decide) ?_
              refine V.sub (lo2 := [some _, some _, some _, some _, some _, some _, some _, some _, some _, none]) ⟨rfl, rfl, rfl, rfl, rfl, rfl, rfl, rfl, rfl, trivial⟩ ?_
              have hib : i < n := hin
              rw [forG_s hib, hz] at i1
              first
              | exact ih28 (i + 1, c, y, e) (by show n - (i + 1) < n - i; omega) ⟨i1, i2, by show c ≤ i + 1; omega, by show i + 1 ≤ n; omega⟩
              | (refine V.wid (k2 := c + 1) (n2 := 3 * (c + 1)) (by omega) (by omega) ?_
                 exact ih28 (i + 1, c + 1, payM 2 y i, e1) (by show n - (i + 1) < n - i; omega) ⟨i1, (show Pd n m (payM 2 y i) from i2.trans hI (payM_Pd hib)), by show c + 1 ≤ i + 1; omega, by show i + 1 ≤ n; omega⟩)
  exact L28 (0, 0, m, e) ⟨rfl, Pd.rfl, Nat.le_refl _, Nat.zero_le _⟩
set_option maxHeartbeats 16000000 in
theorem c_X7_copy {l : Launch} (hl : l.stackTraces = false) {κ : Kp} {h : Nat → Nat} {n : Nat} {m : Mg} {e : Nat → Nat} {p : Int32} {fr to_ len : Nat} (hI : IM m n) (h14 : n ≤ 14) (hE : EvOK m) (hpo : PolOK m) (hl1 : m 5 1 = nI (limN m)) (hl2 : limN m ≤ 96) (hf : fr + len ≤ n) (ht : to_ + len ≤ n) (hln : 0 < len) (h3 : m 5 3 = nI 0 ∨ m 5 3 = nI 1) (hp6 : m 6 0 = p) : CtG SS MM l κ yX7_copy cX7_copy 9 none 18 60 200 [.ref (h 0), .int (nI fr), .int (nI to_), .int (nI len)] (lmW κ h n (m, e, p)) rv (fun _ w => ∃ e', w = lmW κ h n (copyM n fr to_ len m, e', p + nI 1)) (fun _ _ => False) := by
  refine CtG.of (own := RX7) (by decide) rfl hl (by intro v hv; simp only [List.mem_cons, List.not_mem_nil, or_false] at hv; first | (rcases hv with rfl | rfl | rfl | rfl | rfl | rfl <;> rfl) | (rcases hv with rfl | rfl | rfl | rfl | rfl <;> rfl) | (rcases hv with rfl | rfl | rfl | rfl <;> rfl) | (rcases hv with rfl | rfl | rfl <;> rfl) | (rcases hv with rfl | rfl <;> rfl) | (subst hv; rfl) | exact hv.elim) (Nat.le_of_ble_eq_true rfl) (fun X hxl hxk C F NH hnm => ?_)
  subst hxl hxk
  show V X iW 0 [some (.ref (h 0)), some (.int (nI fr)), some (.int (nI to_)), some (.int (nI len)), none, none, none, none, none] [] (lmW (xK X) h n (m, e, p)) 0 0
  have hc0 := cop0_ok (to_ := to_) (len := len) hI hE
  have hdp := depM_ok (T := (rowT to_ (to_ + len - 1))) hc0.1
  have hTf : ∀ q, q < n → rowT to_ (to_ + len - 1) q = decide ((nI to_).toInt ≤ (q : Int) ∧ (q : Int) ≤ (nI (to_ + len - 1)).toInt) := fun q _ => by
    rw [nI_toInt (by omega), nI_toInt (by omega)]
    unfold rowT
    by_cases z : to_ ≤ q ∧ q ≤ to_ + len - 1
    · rw [decide_eq_true z, decide_eq_true (by omega)]
    · rw [decide_eq_false z, decide_eq_false (by omega)]
  have hCDI : IM (copD n to_ len m) n := hdp.1.im hc0.1
  have hCDE : EvOK (copD n to_ len m) := hdp.1.1.2.2.2.2 hc0.2.1
  have hdr := drpM_ok (T := (rowT to_ (to_ + len - 1))) (n := n) (m := copD n to_ len m)
  have hDI : IM (drpM (rowT to_ (to_ + len - 1)) n (copD n to_ len m)) n := hdr.1.im hCDI
  have hDE : EvOK (drpM (rowT to_ (to_ + len - 1)) n (copD n to_ len m)) := hdr.1.1.2.2.2.2 hCDE
  have hDS : Sep (rowT to_ (to_ + len - 1)) n (drpM (rowT to_ (to_ + len - 1)) n (copD n to_ len m)) := sep_dep hc0.1
  have hD5 : (drpM (rowT to_ (to_ + len - 1)) n (copD n to_ len m)) 5 = m 5 := (hdr.1.1.2.2.1.trans hdp.1.1.2.2.1).trans (hc0.2.2 5 (by decide) (by decide) (by decide))
  refine v_aload_n C dX7_copy_0 rfl ?_
  refine v_gF (K := fun w => w) C Cxt.id (v := .ref (h 1)) 0 fl_X7_40 lm_0 rfl dX7_copy_1 ?_
  refine v_lenA (K := fun w => w) C Cxt.id (N := n) 3 1 rfl lm_1 rfl dX7_copy_4 ?_
  refine v_newI C n rfl (by omega) dX7_copy_5 (by first | exact Nat.le_of_ble_eq_true rfl | omega) (by first | exact Nat.le_of_ble_eq_true rfl | omega) (fun q => ?_)
  refine V.stt (g2 := [cI (xK X) q n (mix 0 (valM m) (fun _ => 0))] ++ lmW (xK X) h n (m, e, p)) (by rw [mix_0]; rfl) ?_
  refine v_astore C (lo2 := [some _, some _, some _, some _, some _, none, none, none, none]) dX7_copy_7 rfl (Nat.le_of_ble_eq_true rfl) rfl ?_
  refine v_aload_n C dX7_copy_9 rfl ?_
  refine v_gF (K := fun w => [cI (xK X) q n (mix 0 (valM m) (fun _ => 0))] ++ w) C (Cxt.l _ Cxt.id) (v := .ref (h 1)) 0 fl_X7_40 lm_0 rfl dX7_copy_10 ?_
  refine v_astore C (lo2 := [some _, some _, some _, some _, some _, some _, none, none, none]) dX7_copy_13 rfl (Nat.le_of_ble_eq_true rfl) rfl ?_
  refine v_aload C dX7_copy_15 rfl ?_
  refine v_lenA (K := fun w => [cI (xK X) q n (mix 0 (valM m) (fun _ => 0))] ++ w) C (Cxt.l _ Cxt.id) (N := n) 3 1 rfl lm_1 rfl dX7_copy_17 ?_
  refine v_istore C (lo2 := [some _, some _, some _, some _, some _, some _, some _, none, none]) dX7_copy_18 rfl (Nat.le_of_ble_eq_true rfl) rfl ?_
  refine v_iconst (v := nI 0) C dX7_copy_20 (by decide) ?_
  refine v_istore C (lo2 := [some _, some _, some _, some _, some _, some _, some _, some _, none]) dX7_copy_21 rfl (Nat.le_of_ble_eq_true rfl) rfl ?_
  have L23 : ∀ (t : Nat), (fun t => t ≤ n) t → (fun t : Nat => V X iW 23 [some (.ref (h 0)), some (.int (nI fr)), some (.int (nI to_)), some (.int (nI len)), some (.ref q), some (.ref (h 1)), some (.int (nI n)), some (.int (nI t)), none] [] ([cI (xK X) q n (mix t (valM m) (fun _ => 0))] ++ lmW (xK X) h n (m, e, p)) 1 n) t := by
    refine v_ind (fun t : Nat => n - t) ?_
    rintro i ih23 hI23
    try dsimp only at hI23 ⊢
    refine v_iload C dX7_copy_23 rfl ?_
    refine v_iload C dX7_copy_25 rfl ?_
    first | refine v_icmp_geN C 56 dX7_copy_27 (by decide) (by omega) (by omega) (fun c27 => ?_) (fun c27 => ?_) | refine v_icmp_ge C 56 dX7_copy_27 (by decide) (fun c27 => ?_) (fun c27 => ?_)
    · obtain rfl : n = i := by omega
      refine v_aload_n C dX7_copy_56 rfl ?_
      refine v_iconst (v := nI 0) C dX7_copy_57 (by decide) ?_
      refine v_iload_n C dX7_copy_58 rfl ?_
      refine v_iload_n C dX7_copy_59 rfl ?_
      refine v_gVv (K := fun w => [cI (xK X) q n (mix n (valM m) (fun _ => 0))] ++ w) C (Cxt.l _ Cxt.id) 0 (c_X7_log hl hE) ym_X7_log ml_X7_139 lm_0 rfl rfl rfl dX7_copy_60 (by first | exact Nat.le_of_ble_eq_true rfl | omega) (by first | exact Nat.le_of_ble_eq_true rfl | omega) (by first | exact Nat.le_of_ble_eq_true rfl | omega) (Nat.le_of_ble_eq_true rfl) (fun _ _ hu => hu.elim) (fun r u hu => ?_)
      obtain ⟨e1, rfl⟩ := hu
      refine v_aload_n C dX7_copy_63 rfl ?_
      refine v_gF (K := fun w => [cI (xK X) q n (mix n (valM m) (fun _ => 0))] ++ w) C (Cxt.l _ Cxt.id) (v := .ref (h 3)) 0 fl_X7_24 lm_0 rfl dX7_copy_64 ?_
      refine v_iconst (v := nI 0) C dX7_copy_67 (by decide) ?_
      refine v_dup2 C dX7_copy_68 rfl rfl ?_
      refine v_gI (K := fun w => [cI (xK X) q n (mix n (valM m) (fun _ => 0))] ++ w) C (Cxt.l _ Cxt.id) (x := ((noteM m (nI 0) (nI to_) (nI len)) 6 0)) 3 lm_3 (by first | decide | omega) 0 (rfl) ?_ rfl dX7_copy_69 ?_
      · omega
      refine v_iconst (v := nI 1) C dX7_copy_70 (by decide) ?_
      first | refine v_iaddN C dX7_copy_71 ?_ | refine v_iadd C dX7_copy_71 ?_
      refine v_sI (K := fun w => [cI (xK X) q n (mix n (valM m) (fun _ => 0))] ++ w) C (Cxt.l _ Cxt.id) 3 lm_3 (by first | decide | omega) 0 ?_ rfl set_acc dX7_copy_72 ?_
      · first | decide | omega
      refine v_aload_n C dX7_copy_73 rfl ?_
      refine v_gF (K := fun w => [cI (xK X) q n (mix n (valM m) (fun _ => 0))] ++ w) C (Cxt.l _ Cxt.id) (v := .ref (h 3)) 0 fl_X7_24 lm_0 rfl dX7_copy_74 ?_
      refine v_iconst (v := nI 1) C dX7_copy_77 (by decide) ?_
      refine v_dup2 C dX7_copy_78 rfl rfl ?_
      refine v_gI (K := fun w => [cI (xK X) q n (mix n (valM m) (fun _ => 0))] ++ w) C (Cxt.l _ Cxt.id) (x := ((accM (noteM m (nI 0) (nI to_) (nI len)) 0 (nI 1)) 6 1)) 3 lm_3 (by first | decide | omega) 1 (rfl) ?_ rfl dX7_copy_79 ?_
      · omega
      refine v_iload_n C dX7_copy_80 rfl ?_
      first | refine v_iaddN C dX7_copy_81 ?_ | refine v_iadd C dX7_copy_81 ?_
      refine v_sI (K := fun w => [cI (xK X) q n (mix n (valM m) (fun _ => 0))] ++ w) C (Cxt.l _ Cxt.id) 3 lm_3 (by first | decide | omega) 1 ?_ rfl set_acc dX7_copy_82 ?_
      · first | decide | omega
      refine V.stt (g2 := [cI (xK X) q n (mix n (valM m) (fun _ => 0))] ++ lmW (xK X) h n (cop0 to_ len m, e1, p)) ((by rw [← cop0_law (n := n)]; rfl)) ?_
      refine v_aload_n C dX7_copy_83 rfl ?_
      refine v_iload_n C dX7_copy_84 rfl ?_
      refine v_iload_n C dX7_copy_85 rfl ?_
      refine v_iload_n C dX7_copy_86 rfl ?_
      first | refine v_iaddN C dX7_copy_87 ?_ | refine v_iadd C dX7_copy_87 ?_
      refine v_iconst (v := nI 1) C dX7_copy_88 (by decide) ?_
      first | refine v_isubN C dX7_copy_89 (by omega) ?_ | refine v_isub C dX7_copy_89 ?_
      refine v_gVi (K := fun w => [cI (xK X) q n (mix n (valM m) (fun _ => 0))] ++ w) C (Cxt.l _ Cxt.id) 0 (c_X7_force hl hc0.1 h14 hc0.2.1 hTf) ym_X7_force ml_X7_154 lm_0 rfl rfl rfl dX7_copy_90 (by first | exact Nat.le_of_ble_eq_true rfl | omega) (by first | exact Nat.le_of_ble_eq_true rfl | omega) (by first | exact Nat.le_of_ble_eq_true rfl | omega) (Nat.le_of_ble_eq_true rfl) (fun _ _ hu => hu.elim) (fun r u hu => ?_)
      obtain ⟨rfl, e2, rfl⟩ := hu
      refine v_istore C (lo2 := [some _, some _, some _, some _, some _, some _, some _, some _, none]) dX7_copy_93 rfl (Nat.le_of_ble_eq_true rfl) rfl ?_
      refine v_iconst (v := nI 0) C dX7_copy_95 (by decide) ?_
      refine v_istore C (lo2 := [some _, some _, some _, some _, some _, some _, some _, some _, none]) dX7_copy_96 rfl (Nat.le_of_ble_eq_true rfl) rfl ?_
      have L98 : ∀ (t : Nat × Mg × (Nat → Nat)), (fun t => t.1 ≤ len ∧ forG (fun p y => dropO y p) (to_ + t.1) (len - t.1) t.2.1 = drpM (rowT to_ (to_ + len - 1)) n (copD n to_ len m) ∧ EvOK t.2.1) t → (fun t : Nat × Mg × (Nat → Nat) => V X iW 98 [some (.ref (h 0)), some (.int (nI fr)), some (.int (nI to_)), some (.int (nI len)), some (.ref q), some (.int (nI (depM (rowT to_ (to_ + len - 1)) n (cop0 to_ len m)).1)), some (.int (nI t.1)), none, none] [] ([cI (xK X) q n (mix n (valM m) (fun _ => 0))] ++ lmW (xK X) h n (t.2.1, t.2.2, p)) (16 + t.1) (60 + 3 * t.1)) t := by
        refine v_ind (fun t : Nat × Mg × (Nat → Nat) => len - t.1) ?_
        rintro ⟨i, y, e⟩ ih98 hI98
        try dsimp only at hI98 ⊢
        obtain ⟨i1, i2, hEy⟩ := hI98
        refine v_iload C dX7_copy_98 rfl ?_
        refine v_iload_n C dX7_copy_100 rfl ?_
        first | refine v_icmp_geN C 123 dX7_copy_101 (by decide) (by omega) (by omega) (fun c101 => ?_) (fun c101 => ?_) | refine v_icmp_ge C 123 dX7_copy_101 (by decide) (fun c101 => ?_) (fun c101 => ?_)
        · refine v_iconst (v := nI 0) C dX7_copy_123 (by decide) ?_
          refine v_istore C (lo2 := [some _, some _, some _, some _, some _, some _, some _, none, none]) dX7_copy_124 rfl (Nat.le_of_ble_eq_true rfl) rfl ?_
          have L126 : ∀ (t : Nat × Mg × (Nat → Nat)), (fun t => t.1 ≤ len ∧ forG (copA (rowT to_ (to_ + len - 1)) fr to_ (fun i => (mix n (valM m) (fun _ => 0)) (fr + i))) t.1 (len - t.1) t.2.1 = forG (copA (rowT to_ (to_ + len - 1)) fr to_ (fun i => (mix n (valM m) (fun _ => 0)) (fr + i))) 0 len (drpM (rowT to_ (to_ + len - 1)) n (copD n to_ len m)) ∧ IM t.2.1 n ∧ Sep (rowT to_ (to_ + len - 1)) n t.2.1 ∧ EvOK t.2.1 ∧ t.2.1 5 = m 5) t → (fun t : Nat × Mg × (Nat → Nat) => V X iW 126 [some (.ref (h 0)), some (.int (nI fr)), some (.int (nI to_)), some (.int (nI len)), some (.ref q), some (.int (nI (depM (rowT to_ (to_ + len - 1)) n (cop0 to_ len m)).1)), some (.int (nI t.1)), none, none] [] ([cI (xK X) q n (mix n (valM m) (fun _ => 0))] ++ lmW (xK X) h n (t.2.1, t.2.2, p)) (30 + t.1) (102 + 3 * t.1)) t := by
            refine v_ind (fun t : Nat × Mg × (Nat → Nat) => len - t.1) ?_
            rintro ⟨i, y, e⟩ ih126 hI126
            try dsimp only at hI126 ⊢
            obtain ⟨i1, i2, hIy, hSy, hEy, h5y⟩ := hI126
            refine v_iload C dX7_copy_126 rfl ?_
            refine v_iload_n C dX7_copy_128 rfl ?_
            first | refine v_icmp_geN C 192 dX7_copy_129 (by decide) (by omega) (by omega) (fun c129 => ?_) (fun c129 => ?_) | refine v_icmp_ge C 192 dX7_copy_129 (by decide) (fun c129 => ?_) (fun c129 => ?_)
            · refine v_iconst (v := nI 0) C dX7_copy_192 (by decide) ?_
              refine v_istore C (lo2 := [some _, some _, some _, some _, some _, some _, some _, none, none]) dX7_copy_193 rfl (Nat.le_of_ble_eq_true rfl) rfl ?_
              have L195 : ∀ (t : Nat × Mg), (fun t => t.1 ≤ len ∧ forG (copO (rowT to_ (to_ + len - 1)) fr to_ (m 6 0)) t.1 (len - t.1) t.2 = forG (copO (rowT to_ (to_ + len - 1)) fr to_ (m 6 0)) 0 len (forG (copA (rowT to_ (to_ + len - 1)) fr to_ (fun i => (mix n (valM m) (fun _ => 0)) (fr + i))) 0 len (drpM (rowT to_ (to_ + len - 1)) n (copD n to_ len m))) ∧ IM t.2 n ∧ Sep (rowT to_ (to_ + len - 1)) n t.2 ∧ EvOK t.2 ∧ t.2 5 = m 5) t → (fun t : Nat × Mg => V X iW 195 [some (.ref (h 0)), some (.int (nI fr)), some (.int (nI to_)), some (.int (nI len)), some (.ref q), some (.int (nI (depM (rowT to_ (to_ + len - 1)) n (cop0 to_ len m)).1)), some (.int (nI t.1)), none, none] [] ([cI (xK X) q n (mix n (valM m) (fun _ => 0))] ++ lmW (xK X) h n (t.2, e, p)) 44 144) t := by
                refine v_ind (fun t : Nat × Mg => len - t.1) ?_
                rintro ⟨i, y⟩ ih195 hI195
                try dsimp only at hI195 ⊢
                obtain ⟨i1, i2, hIy, hSy, hEy, h5y⟩ := hI195
                refine v_iload C dX7_copy_195 rfl ?_
                refine v_iload_n C dX7_copy_197 rfl ?_
                first | refine v_icmp_geN C 287 dX7_copy_198 (by decide) (by omega) (by omega) (fun c198 => ?_) (fun c198 => ?_) | refine v_icmp_ge C 287 dX7_copy_198 (by decide) (fun c198 => ?_) (fun c198 => ?_)
                · have hpy : PolOK y := by unfold PolOK; rw [h5y]; exact hpo
                  have hlim : limN y = limN m := by unfold limN; rw [h5y]
                  have hly1 : y 5 1 = nI (limN y) := by rw [hlim, h5y]; exact hl1
                  have hly2 : limN y ≤ 96 := by rw [hlim]; exact hl2
                  refine v_aload_n C dX7_copy_287 rfl ?_
                  refine v_dup C dX7_copy_288 rfl ?_
                  refine v_gF (K := fun w => [cI (xK X) q n (mix n (valM m) (fun _ => 0))] ++ w) C (Cxt.l _ Cxt.id) (v := .int p) 0 fl_X7_133 lm_0 rfl dX7_copy_289 ?_
                  refine v_iconst (v := nI 1) C dX7_copy_292 (by decide) ?_
                  first | refine v_iaddN C dX7_copy_293 ?_ | refine v_iadd C dX7_copy_293 ?_
                  refine v_pF (K := fun w => [cI (xK X) q n (mix n (valM m) (fun _ => 0))] ++ w) C (Cxt.l _ Cxt.id) 0 fl_X7_133 fw_X7_5 lm_0 rfl rfl (Nat.le_of_ble_eq_true rfl) set_proms dX7_copy_294 ?_
                  refine v_aload_n C dX7_copy_297 rfl ?_
                  refine v_gVv (K := fun w => [cI (xK X) q n (mix n (valM m) (fun _ => 0))] ++ w) C (Cxt.l _ Cxt.id) 0 (c_X7_limit hl hIy h14 hEy hpy hly1 hly2) ym_X7_limit ml_X7_160 lm_0 rfl rfl rfl dX7_copy_298 (by first | exact Nat.le_of_ble_eq_true rfl | omega) (by first | exact Nat.le_of_ble_eq_true rfl | omega) (by first | exact Nat.le_of_ble_eq_true rfl | omega) (Nat.le_of_ble_eq_true rfl) (fun _ _ hu => hu.elim) (fun r u hu => ?_)
                  obtain ⟨e5, rfl⟩ := hu
                  refine V.drop (List.sublist_append_right _ _) ?_
                  refine v_vretG C (r := ()) F dX7_copy_301 (by first | exact Nat.le_of_ble_eq_true rfl | omega) (by first | exact Nat.le_of_ble_eq_true rfl | omega) rfl (List.Perm.refl _) ?_
                  have hy2 : y = forG (copO (rowT to_ (to_ + len - 1)) fr to_ (m 6 0)) 0 len (forG (copA (rowT to_ (to_ + len - 1)) fr to_ (fun i => (mix n (valM m) (fun _ => 0)) (fr + i))) 0 len (drpM (rowT to_ (to_ + len - 1)) n (copD n to_ len m))) := by rw [← i2, show len - i = 0 by omega]; rfl
                  exact ⟨e5, by rw [hy2, copy_law hI hE hf (fun j hj => mix_in hj)]⟩
                · have hti : to_ + i < n := by omega
                  have hfi : fr + i < n := by omega
                  have hTt : rowT to_ (to_ + len - 1) (to_ + i) = true := decide_eq_true (by omega)
                  refine v_iload_n C dX7_copy_201 rfl ?_
                  refine v_iload C dX7_copy_202 rfl ?_
                  first | refine v_iaddN C dX7_copy_204 ?_ | refine v_iadd C dX7_copy_204 ?_
                  refine v_iload_n C dX7_copy_205 rfl ?_
                  first | refine v_icmp_ltN C 222 dX7_copy_206 (by decide) (by omega) (by omega) (fun c206 => ?_) (fun c206 => ?_) | refine v_icmp_lt C 222 dX7_copy_206 (by decide) (fun c206 => ?_) (fun c206 => ?_)
                  · have hTi : rowT to_ (to_ + len - 1) (fr + i) = false := decide_eq_false (by omega)
                    have hz : copO (rowT to_ (to_ + len - 1)) fr to_ (m 6 0) i y = oweM y (to_ + i) (fr + i) (m 6 0) := by unfold copO; rw [hTi]; rfl
                    refine v_aload_n C dX7_copy_222 rfl ?_
                    refine v_gF (K := fun w => [cI (xK X) q n (mix n (valM m) (fun _ => 0))] ++ w) C (Cxt.l _ Cxt.id) (v := .ref (h 1)) 0 fl_X7_40 lm_0 rfl dX7_copy_223 ?_
                    refine v_iload_n C dX7_copy_226 rfl ?_
                    refine v_iload C dX7_copy_227 rfl ?_
                    first | refine v_iaddN C dX7_copy_229 ?_ | refine v_iadd C dX7_copy_229 ?_
                    refine v_gP (K := fun w => [cI (xK X) q n (mix n (valM m) (fun _ => 0))] ++ w) C (Cxt.l _ Cxt.id) (x := (some (h (8 + (fr + i))))) 1 lm_1 (by first | decide | omega) (fr + i) (if_pos (by omega)) ?_ rfl dX7_copy_230 ?_
                    · omega
                    refine v_astore C (lo2 := [some _, some _, some _, some _, some _, some _, some _, some _, none]) dX7_copy_231 rfl (Nat.le_of_ble_eq_true rfl) rfl ?_
                    refine v_aload_n C dX7_copy_233 rfl ?_
                    refine v_gF (K := fun w => [cI (xK X) q n (mix n (valM m) (fun _ => 0))] ++ w) C (Cxt.l _ Cxt.id) (v := .ref (h 1)) 0 fl_X7_40 lm_0 rfl dX7_copy_234 ?_
                    refine v_iload_n C dX7_copy_237 rfl ?_
                    refine v_iload C dX7_copy_238 rfl ?_
                    first | refine v_iaddN C dX7_copy_240 ?_ | refine v_iadd C dX7_copy_240 ?_
                    refine v_gP (K := fun w => [cI (xK X) q n (mix n (valM m) (fun _ => 0))] ++ w) C (Cxt.l _ Cxt.id) (x := (some (h (8 + (to_ + i))))) 1 lm_1 (by first | decide | omega) (to_ + i) (if_pos (by omega)) ?_ rfl dX7_copy_241 ?_
                    · omega
                    refine v_aload_n C dX7_copy_242 rfl ?_
                    refine v_gF (K := fun w => [cI (xK X) q n (mix n (valM m) (fun _ => 0))] ++ w) C (Cxt.l _ Cxt.id) (v := .ref (h 2)) 0 fl_X7_20 lm_0 rfl dX7_copy_243 ?_
                    refine v_iconst (v := nI 3) C dX7_copy_246 (by decide) ?_
                    refine v_gI (K := fun w => [cI (xK X) q n (mix n (valM m) (fun _ => 0))] ++ w) C (Cxt.l _ Cxt.id) (x := (y 5 3)) 2 lm_2 (by first | decide | omega) 3 (rfl) ?_ rfl dX7_copy_247 ?_
                    · omega
                    rw [h5y]
                    refine v_iconst (v := nI 1) C dX7_copy_248 (by decide) ?_
                    first | refine v_icmp_neN C 260 dX7_copy_249 (by decide) (by omega) (by omega) (fun c249 => ?_) (fun c249 => ?_) | refine v_icmp_ne C 260 dX7_copy_249 (by decide) (fun c249 => ?_) (fun c249 => ?_)
                    · refine v_aload C dX7_copy_260 rfl ?_
                      refine v_pFN (K := fun w => [cI (xK X) q n (mix n (valM m) (fun _ => 0))] ++ w) C (Cxt.l _ Cxt.id) (v := va_rf (some (h (8 + (fr + i))))) (5 + (to_ + i)) fln_X7_109 fw_X8_3 (plc_at hti) rfl rfl (Nat.le_of_ble_eq_true rfl) (set_source hti (by first | (have := (root_end hIy (fr + i) hfi).1; omega) | omega)) dX7_copy_262 ?_
                      refine v_aload_n C dX7_copy_265 rfl ?_
                      refine v_gF (K := fun w => [cI (xK X) q n (mix n (valM m) (fun _ => 0))] ++ w) C (Cxt.l _ Cxt.id) (v := .ref (h 1)) 0 fl_X7_40 lm_0 rfl dX7_copy_266 ?_
                      refine v_iload_n C dX7_copy_269 rfl ?_
                      refine v_iload C dX7_copy_270 rfl ?_
                      first | refine v_iaddN C dX7_copy_272 ?_ | refine v_iadd C dX7_copy_272 ?_
                      refine v_gP (K := fun w => [cI (xK X) q n (mix n (valM m) (fun _ => 0))] ++ w) C (Cxt.l _ Cxt.id) (x := (some (h (8 + (to_ + i))))) 1 lm_1 (by first | decide | omega) (to_ + i) (if_pos (by omega)) ?_ rfl dX7_copy_273 ?_
                      · omega
                      refine v_aload_n C dX7_copy_274 rfl ?_
                      refine v_gF (K := fun w => [cI (xK X) q n (mix n (valM m) (fun _ => 0))] ++ w) C (Cxt.l _ Cxt.id) (v := .int p) 0 fl_X7_133 lm_0 rfl dX7_copy_275 ?_
                      refine v_pFN (K := fun w => [cI (xK X) q n (mix n (valM m) (fun _ => 0))] ++ w) C (Cxt.l _ Cxt.id) (5 + (to_ + i)) fln_X7_121 fw_X8_2 (plc_at hti) rfl rfl (Nat.le_of_ble_eq_true rfl) (set_promise hti) dX7_copy_278 ?_
                      refine V.stt (g2 := [cI (xK X) q n (mix n (valM m) (fun _ => 0))] ++ lmW (xK X) h n (oweM y (to_ + i) (fr + i) (m 6 0), e, p)) ((by unfold oweM; rw [h5y, if_neg c249, hp6])) ?_
                      first | refine v_iinc1 C (lo2 := [some _, some _, some _, some _, some _, some _, some _, some _, none]) dX7_copy_281 rfl rfl rfl ?_ | refine v_iinc C (lo2 := [some _, some _, some _, some _, some _, some _, some _, some _, none]) dX7_copy_281 rfl rfl rfl rfl ?_
                      refine v_goto C 195 dX7_copy_284 (by decide) ?_
                      refine V.sub (lo2 := [some _, some _, some _, some _, some _, some _, some _, none, none]) ⟨rfl, rfl, rfl, rfl, rfl, rfl, rfl, trivial⟩ ?_
                      have hco := copO_ok (num := m 6 0) hIy hSy hEy hfi hti hTt
                      rw [forG_s (by omega : i < len), hz] at i2
                      rw [hz] at hco
                      first
                      | exact ih195 (i + 1, y) (by show len - (i + 1) < len - i; omega) ⟨by show i + 1 ≤ len; omega, i2, hco.1, hco.2.1, hco.2.2.1, hco.2.2.2.trans h5y⟩
                      | exact ih195 (i + 1, oweM y (to_ + i) (fr + i) (m 6 0)) (by show len - (i + 1) < len - i; omega) ⟨by show i + 1 ≤ len; omega, i2, hco.1, hco.2.1, hco.2.2.1, hco.2.2.2.trans h5y⟩
                    · refine v_aload C dX7_copy_252 rfl ?_
                      refine v_gVr (K := fun w => [cI (xK X) q n (mix n (valM m) (fun _ => 0))] ++ w) C (Cxt.l _ Cxt.id) (5 + (fr + i)) (c_X8_root hl hIy h14 hfi) ym_X8_root ml_X7_157 (plc_at hfi) rfl rfl rfl dX7_copy_254 (by first | exact Nat.le_of_ble_eq_true rfl | omega) (by first | exact Nat.le_of_ble_eq_true rfl | omega) (by first | exact Nat.le_of_ble_eq_true rfl | omega) (Nat.le_of_ble_eq_true rfl) (fun _ _ hu => hu.elim) (fun r u hu => ?_)
                      obtain ⟨rfl, rfl⟩ := hu
                      refine v_goto C 262 dX7_copy_257 (by decide) ?_
                      refine v_pFN (K := fun w => [cI (xK X) q n (mix n (valM m) (fun _ => 0))] ++ w) C (Cxt.l _ Cxt.id) (v := va_rf (some (h (8 + (rootM y (fr + i)))))) (5 + (to_ + i)) fln_X7_109 fw_X8_3 (plc_at hti) rfl rfl (Nat.le_of_ble_eq_true rfl) (set_source hti (by first | (have := (root_end hIy (fr + i) hfi).1; omega) | omega)) dX7_copy_262 ?_
                      refine v_aload_n C dX7_copy_265 rfl ?_
                      refine v_gF (K := fun w => [cI (xK X) q n (mix n (valM m) (fun _ => 0))] ++ w) C (Cxt.l _ Cxt.id) (v := .ref (h 1)) 0 fl_X7_40 lm_0 rfl dX7_copy_266 ?_
                      refine v_iload_n C dX7_copy_269 rfl ?_
                      refine v_iload C dX7_copy_270 rfl ?_
                      first | refine v_iaddN C dX7_copy_272 ?_ | refine v_iadd C dX7_copy_272 ?_
                      refine v_gP (K := fun w => [cI (xK X) q n (mix n (valM m) (fun _ => 0))] ++ w) C (Cxt.l _ Cxt.id) (x := (some (h (8 + (to_ + i))))) 1 lm_1 (by first | decide | omega) (to_ + i) (if_pos (by omega)) ?_ rfl dX7_copy_273 ?_
                      · omega
                      refine v_aload_n C dX7_copy_274 rfl ?_
                      refine v_gF (K := fun w => [cI (xK X) q n (mix n (valM m) (fun _ => 0))] ++ w) C (Cxt.l _ Cxt.id) (v := .int p) 0 fl_X7_133 lm_0 rfl dX7_copy_275 ?_
                      refine v_pFN (K := fun w => [cI (xK X) q n (mix n (valM m) (fun _ => 0))] ++ w) C (Cxt.l _ Cxt.id) (5 + (to_ + i)) fln_X7_121 fw_X8_2 (plc_at hti) rfl rfl (Nat.le_of_ble_eq_true rfl) (set_promise hti) dX7_copy_278 ?_
                      refine V.stt (g2 := [cI (xK X) q n (mix n (valM m) (fun _ => 0))] ++ lmW (xK X) h n (oweM y (to_ + i) (fr + i) (m 6 0), e, p)) ((by unfold oweM; rw [h5y, if_pos c249, hp6])) ?_
                      first | refine v_iinc1 C (lo2 := [some _, some _, some _, some _, some _, some _, some _, some _, none]) dX7_copy_281 rfl rfl rfl ?_ | refine v_iinc C (lo2 := [some _, some _, some _, some _, some _, some _, some _, some _, none]) dX7_copy_281 rfl rfl rfl rfl ?_
                      refine v_goto C 195 dX7_copy_284 (by decide) ?_
                      refine V.sub (lo2 := [some _, some _, some _, some _, some _, some _, some _, none, none]) ⟨rfl, rfl, rfl, rfl, rfl, rfl, rfl, trivial⟩ ?_
                      have hco := copO_ok (num := m 6 0) hIy hSy hEy hfi hti hTt
                      rw [forG_s (by omega : i < len), hz] at i2
                      rw [hz] at hco
                      first
                      | exact ih195 (i + 1, y) (by show len - (i + 1) < len - i; omega) ⟨by show i + 1 ≤ len; omega, i2, hco.1, hco.2.1, hco.2.2.1, hco.2.2.2.trans h5y⟩
                      | exact ih195 (i + 1, oweM y (to_ + i) (fr + i) (m 6 0)) (by show len - (i + 1) < len - i; omega) ⟨by show i + 1 ≤ len; omega, i2, hco.1, hco.2.1, hco.2.2.1, hco.2.2.2.trans h5y⟩
                  · refine v_iload_n C dX7_copy_209 rfl ?_
                    refine v_iload C dX7_copy_210 rfl ?_
                    first | refine v_iaddN C dX7_copy_212 ?_ | refine v_iadd C dX7_copy_212 ?_
                    refine v_iload_n C dX7_copy_213 rfl ?_
                    refine v_iload_n C dX7_copy_214 rfl ?_
                    first | refine v_iaddN C dX7_copy_215 ?_ | refine v_iadd C dX7_copy_215 ?_
                    first | refine v_icmp_geN C 222 dX7_copy_216 (by decide) (by omega) (by omega) (fun c216 => ?_) (fun c216 => ?_) | refine v_icmp_ge C 222 dX7_copy_216 (by decide) (fun c216 => ?_) (fun c216 => ?_)
                    · have hTi : rowT to_ (to_ + len - 1) (fr + i) = false := decide_eq_false (by omega)
                      have hz : copO (rowT to_ (to_ + len - 1)) fr to_ (m 6 0) i y = oweM y (to_ + i) (fr + i) (m 6 0) := by unfold copO; rw [hTi]; rfl
                      refine v_aload_n C dX7_copy_222 rfl ?_
                      refine v_gF (K := fun w => [cI (xK X) q n (mix n (valM m) (fun _ => 0))] ++ w) C (Cxt.l _ Cxt.id) (v := .ref (h 1)) 0 fl_X7_40 lm_0 rfl dX7_copy_223 ?_
                      refine v_iload_n C dX7_copy_226 rfl ?_
                      refine v_iload C dX7_copy_227 rfl ?_
                      first | refine v_iaddN C dX7_copy_229 ?_ | refine v_iadd C dX7_copy_229 ?_
                      refine v_gP (K := fun w => [cI (xK X) q n (mix n (valM m) (fun _ => 0))] ++ w) C (Cxt.l _ Cxt.id) (x := (some (h (8 + (fr + i))))) 1 lm_1 (by first | decide | omega) (fr + i) (if_pos (by omega)) ?_ rfl dX7_copy_230 ?_
                      · omega
                      refine v_astore C (lo2 := [some _, some _, some _, some _, some _, some _, some _, some _, none]) dX7_copy_231 rfl (Nat.le_of_ble_eq_true rfl) rfl ?_
                      refine v_aload_n C dX7_copy_233 rfl ?_
                      refine v_gF (K := fun w => [cI (xK X) q n (mix n (valM m) (fun _ => 0))] ++ w) C (Cxt.l _ Cxt.id) (v := .ref (h 1)) 0 fl_X7_40 lm_0 rfl dX7_copy_234 ?_
                      refine v_iload_n C dX7_copy_237 rfl ?_
                      refine v_iload C dX7_copy_238 rfl ?_
                      first | refine v_iaddN C dX7_copy_240 ?_ | refine v_iadd C dX7_copy_240 ?_
                      refine v_gP (K := fun w => [cI (xK X) q n (mix n (valM m) (fun _ => 0))] ++ w) C (Cxt.l _ Cxt.id) (x := (some (h (8 + (to_ + i))))) 1 lm_1 (by first | decide | omega) (to_ + i) (if_pos (by omega)) ?_ rfl dX7_copy_241 ?_
                      · omega
                      refine v_aload_n C dX7_copy_242 rfl ?_
                      refine v_gF (K := fun w => [cI (xK X) q n (mix n (valM m) (fun _ => 0))] ++ w) C (Cxt.l _ Cxt.id) (v := .ref (h 2)) 0 fl_X7_20 lm_0 rfl dX7_copy_243 ?_
                      refine v_iconst (v := nI 3) C dX7_copy_246 (by decide) ?_
                      refine v_gI (K := fun w => [cI (xK X) q n (mix n (valM m) (fun _ => 0))] ++ w) C (Cxt.l _ Cxt.id) (x := (y 5 3)) 2 lm_2 (by first | decide | omega) 3 (rfl) ?_ rfl dX7_copy_247 ?_
                      · omega
                      rw [h5y]
                      refine v_iconst (v := nI 1) C dX7_copy_248 (by decide) ?_
                      first | refine v_icmp_neN C 260 dX7_copy_249 (by decide) (by omega) (by omega) (fun c249 => ?_) (fun c249 => ?_) | refine v_icmp_ne C 260 dX7_copy_249 (by decide) (fun c249 => ?_) (fun c249 => ?_)
                      · refine v_aload C dX7_copy_260 rfl ?_
                        refine v_pFN (K := fun w => [cI (xK X) q n (mix n (valM m) (fun _ => 0))] ++ w) C (Cxt.l _ Cxt.id) (v := va_rf (some (h (8 + (fr + i))))) (5 + (to_ + i)) fln_X7_109 fw_X8_3 (plc_at hti) rfl rfl (Nat.le_of_ble_eq_true rfl) (set_source hti (by first | (have := (root_end hIy (fr + i) hfi).1; omega) | omega)) dX7_copy_262 ?_
                        refine v_aload_n C dX7_copy_265 rfl ?_
                        refine v_gF (K := fun w => [cI (xK X) q n (mix n (valM m) (fun _ => 0))] ++ w) C (Cxt.l _ Cxt.id) (v := .ref (h 1)) 0 fl_X7_40 lm_0 rfl dX7_copy_266 ?_
                        refine v_iload_n C dX7_copy_269 rfl ?_
                        refine v_iload C dX7_copy_270 rfl ?_
                        first | refine v_iaddN C dX7_copy_272 ?_ | refine v_iadd C dX7_copy_272 ?_
                        refine v_gP (K := fun w => [cI (xK X) q n (mix n (valM m) (fun _ => 0))] ++ w) C (Cxt.l _ Cxt.id) (x := (some (h (8 + (to_ + i))))) 1 lm_1 (by first | decide | omega) (to_ + i) (if_pos (by omega)) ?_ rfl dX7_copy_273 ?_
                        · omega
                        refine v_aload_n C dX7_copy_274 rfl ?_
                        refine v_gF (K := fun w => [cI (xK X) q n (mix n (valM m) (fun _ => 0))] ++ w) C (Cxt.l _ Cxt.id) (v := .int p) 0 fl_X7_133 lm_0 rfl dX7_copy_275 ?_
                        refine v_pFN (K := fun w => [cI (xK X) q n (mix n (valM m) (fun _ => 0))] ++ w) C (Cxt.l _ Cxt.id) (5 + (to_ + i)) fln_X7_121 fw_X8_2 (plc_at hti) rfl rfl (Nat.le_of_ble_eq_true rfl) (set_promise hti) dX7_copy_278 ?_
                        refine V.stt (g2 := [cI (xK X) q n (mix n (valM m) (fun _ => 0))] ++ lmW (xK X) h n (oweM y (to_ + i) (fr + i) (m 6 0), e, p)) ((by unfold oweM; rw [h5y, if_neg c249, hp6])) ?_
                        first | refine v_iinc1 C (lo2 := [some _, some _, some _, some _, some _, some _, some _, some _, none]) dX7_copy_281 rfl rfl rfl ?_ | refine v_iinc C (lo2 := [some _, some _, some _, some _, some _, some _, some _, some _, none]) dX7_copy_281 rfl rfl rfl rfl ?_
                        refine v_goto C 195 dX7_copy_284 (by decide) ?_
                        refine V.sub (lo2 := [some _, some _, some _, some _, some _, some _, some _, none, none]) ⟨rfl, rfl, rfl, rfl, rfl, rfl, rfl, trivial⟩ ?_
                        have hco := copO_ok (num := m 6 0) hIy hSy hEy hfi hti hTt
                        rw [forG_s (by omega : i < len), hz] at i2
                        rw [hz] at hco
                        first
                        | exact ih195 (i + 1, y) (by show len - (i + 1) < len - i; omega) ⟨by show i + 1 ≤ len; omega, i2, hco.1, hco.2.1, hco.2.2.1, hco.2.2.2.trans h5y⟩
                        | exact ih195 (i + 1, oweM y (to_ + i) (fr + i) (m 6 0)) (by show len - (i + 1) < len - i; omega) ⟨by show i + 1 ≤ len; omega, i2, hco.1, hco.2.1, hco.2.2.1, hco.2.2.2.trans h5y⟩
                      · refine v_aload C dX7_copy_252 rfl ?_
                        refine v_gVr (K := fun w => [cI (xK X) q n (mix n (valM m) (fun _ => 0))] ++ w) C (Cxt.l _ Cxt.id) (5 + (fr + i)) (c_X8_root hl hIy h14 hfi) ym_X8_root ml_X7_157 (plc_at hfi) rfl rfl rfl dX7_copy_254 (by first | exact Nat.le_of_ble_eq_true rfl | omega) (by first | exact Nat.le_of_ble_eq_true rfl | omega) (by first | exact Nat.le_of_ble_eq_true rfl | omega) (Nat.le_of_ble_eq_true rfl) (fun _ _ hu => hu.elim) (fun r u hu => ?_)
                        obtain ⟨rfl, rfl⟩ := hu
                        refine v_goto C 262 dX7_copy_257 (by decide) ?_
                        refine v_pFN (K := fun w => [cI (xK X) q n (mix n (valM m) (fun _ => 0))] ++ w) C (Cxt.l _ Cxt.id) (v := va_rf (some (h (8 + (rootM y (fr + i)))))) (5 + (to_ + i)) fln_X7_109 fw_X8_3 (plc_at hti) rfl rfl (Nat.le_of_ble_eq_true rfl) (set_source hti (by first | (have := (root_end hIy (fr + i) hfi).1; omega) | omega)) dX7_copy_262 ?_
                        refine v_aload_n C dX7_copy_265 rfl ?_
                        refine v_gF (K := fun w => [cI (xK X) q n (mix n (valM m) (fun _ => 0))] ++ w) C (Cxt.l _ Cxt.id) (v := .ref (h 1)) 0 fl_X7_40 lm_0 rfl dX7_copy_266 ?_
                        refine v_iload_n C dX7_copy_269 rfl ?_
                        refine v_iload C dX7_copy_270 rfl ?_
                        first | refine v_iaddN C dX7_copy_272 ?_ | refine v_iadd C dX7_copy_272 ?_
                        refine v_gP (K := fun w => [cI (xK X) q n (mix n (valM m) (fun _ => 0))] ++ w) C (Cxt.l _ Cxt.id) (x := (some (h (8 + (to_ + i))))) 1 lm_1 (by first | decide | omega) (to_ + i) (if_pos (by omega)) ?_ rfl dX7_copy_273 ?_
                        · omega
                        refine v_aload_n C dX7_copy_274 rfl ?_
                        refine v_gF (K := fun w => [cI (xK X) q n (mix n (valM m) (fun _ => 0))] ++ w) C (Cxt.l _ Cxt.id) (v := .int p) 0 fl_X7_133 lm_0 rfl dX7_copy_275 ?_
                        refine v_pFN (K := fun w => [cI (xK X) q n (mix n (valM m) (fun _ => 0))] ++ w) C (Cxt.l _ Cxt.id) (5 + (to_ + i)) fln_X7_121 fw_X8_2 (plc_at hti) rfl rfl (Nat.le_of_ble_eq_true rfl) (set_promise hti) dX7_copy_278 ?_
                        refine V.stt (g2 := [cI (xK X) q n (mix n (valM m) (fun _ => 0))] ++ lmW (xK X) h n (oweM y (to_ + i) (fr + i) (m 6 0), e, p)) ((by unfold oweM; rw [h5y, if_pos c249, hp6])) ?_
                        first | refine v_iinc1 C (lo2 := [some _, some _, some _, some _, some _, some _, some _, some _, none]) dX7_copy_281 rfl rfl rfl ?_ | refine v_iinc C (lo2 := [some _, some _, some _, some _, some _, some _, some _, some _, none]) dX7_copy_281 rfl rfl rfl rfl ?_
                        refine v_goto C 195 dX7_copy_284 (by decide) ?_
                        refine V.sub (lo2 := [some _, some _, some _, some _, some _, some _, some _, none, none]) ⟨rfl, rfl, rfl, rfl, rfl, rfl, rfl, trivial⟩ ?_
                        have hco := copO_ok (num := m 6 0) hIy hSy hEy hfi hti hTt
                        rw [forG_s (by omega : i < len), hz] at i2
                        rw [hz] at hco
                        first
                        | exact ih195 (i + 1, y) (by show len - (i + 1) < len - i; omega) ⟨by show i + 1 ≤ len; omega, i2, hco.1, hco.2.1, hco.2.2.1, hco.2.2.2.trans h5y⟩
                        | exact ih195 (i + 1, oweM y (to_ + i) (fr + i) (m 6 0)) (by show len - (i + 1) < len - i; omega) ⟨by show i + 1 ≤ len; omega, i2, hco.1, hco.2.1, hco.2.2.1, hco.2.2.2.trans h5y⟩
                    · have hTi : rowT to_ (to_ + len - 1) (fr + i) = true := decide_eq_true (by omega)
                      have hz : copO (rowT to_ (to_ + len - 1)) fr to_ (m 6 0) i y = y := by unfold copO; rw [hTi]; rfl
                      refine v_goto C 281 dX7_copy_219 (by decide) ?_
                      first | refine v_iinc1 C (lo2 := [some _, some _, some _, some _, some _, some _, some _, none, none]) dX7_copy_281 rfl rfl rfl ?_ | refine v_iinc C (lo2 := [some _, some _, some _, some _, some _, some _, some _, none, none]) dX7_copy_281 rfl rfl rfl rfl ?_
                      refine v_goto C 195 dX7_copy_284 (by decide) ?_
                      have hco := copO_ok (num := m 6 0) hIy hSy hEy hfi hti hTt
                      rw [forG_s (by omega : i < len), hz] at i2
                      rw [hz] at hco
                      first
                      | exact ih195 (i + 1, y) (by show len - (i + 1) < len - i; omega) ⟨by show i + 1 ≤ len; omega, i2, hco.1, hco.2.1, hco.2.2.1, hco.2.2.2.trans h5y⟩
                      | exact ih195 (i + 1, oweM y (to_ + i) (fr + i) (m 6 0)) (by show len - (i + 1) < len - i; omega) ⟨by show i + 1 ≤ len; omega, i2, hco.1, hco.2.1, hco.2.2.1, hco.2.2.2.trans h5y⟩
              refine V.wid (k2 := 44) (n2 := 144) (by omega) (by omega) ?_
              exact L195 (0, y) ⟨Nat.zero_le _, by rw [← i2, show len - i = 0 by omega]; rfl, hIy, hSy, hEy, h5y⟩
            · have hti : to_ + i < n := by omega
              have hfi : fr + i < n := by omega
              refine v_iload_n C dX7_copy_132 rfl ?_
              refine v_iload C dX7_copy_133 rfl ?_
              first | refine v_iaddN C dX7_copy_135 ?_ | refine v_iadd C dX7_copy_135 ?_
              refine v_iload_n C dX7_copy_136 rfl ?_
              first | refine v_icmp_ltN C 186 dX7_copy_137 (by decide) (by omega) (by omega) (fun c137 => ?_) (fun c137 => ?_) | refine v_icmp_lt C 186 dX7_copy_137 (by decide) (fun c137 => ?_) (fun c137 => ?_)
              · have hTi : rowT to_ (to_ + len - 1) (fr + i) = false := decide_eq_false (by omega)
                have hz : copA (rowT to_ (to_ + len - 1)) fr to_ (fun i => (mix n (valM m) (fun _ => 0)) (fr + i)) i y = y := by unfold copA; rw [hTi]; rfl
                first | refine v_iinc1 C (lo2 := [some _, some _, some _, some _, some _, some _, some _, none, none]) dX7_copy_186 rfl rfl rfl ?_ | refine v_iinc C (lo2 := [some _, some _, some _, some _, some _, some _, some _, none, none]) dX7_copy_186 rfl rfl rfl rfl ?_
                refine v_goto C 126 dX7_copy_189 (by decide) ?_
                have hca := copA_ok (c := fun i => (mix n (valM m) (fun _ => 0)) (fr + i)) (fr := fr) (to_ := to_) (i := i) hIy hSy hEy
                rw [forG_s (by omega : i < len), hz] at i2
                rw [hz] at hca
                refine V.wid (k2 := 30 + (i + 1)) (n2 := 102 + 3 * (i + 1)) (by omega) (by omega) ?_
                first
                | exact ih126 (i + 1, y, e) (by show len - (i + 1) < len - i; omega) ⟨by show i + 1 ≤ len; omega, i2, hca.1, hca.2.1, hca.2.2.1, hca.2.2.2.trans h5y⟩
                | exact ih126 (i + 1, cpM (noteM (byteM y (to_ + i) (valM m (fr + i))) (nI 3) (nI (to_ + i)) (valM m (fr + i))) 3, e4) (by show len - (i + 1) < len - i; omega) ⟨by show i + 1 ≤ len; omega, i2, hca.1, hca.2.1, hca.2.2.1, hca.2.2.2.trans h5y⟩
              · refine v_iload_n C dX7_copy_140 rfl ?_
                refine v_iload C dX7_copy_141 rfl ?_
                first | refine v_iaddN C dX7_copy_143 ?_ | refine v_iadd C dX7_copy_143 ?_
                refine v_iload_n C dX7_copy_144 rfl ?_
                refine v_iload_n C dX7_copy_145 rfl ?_
                first | refine v_iaddN C dX7_copy_146 ?_ | refine v_iadd C dX7_copy_146 ?_
                first | refine v_icmp_ltN C 153 dX7_copy_147 (by decide) (by omega) (by omega) (fun c147 => ?_) (fun c147 => ?_) | refine v_icmp_lt C 153 dX7_copy_147 (by decide) (fun c147 => ?_) (fun c147 => ?_)
                · have hTi : rowT to_ (to_ + len - 1) (fr + i) = true := decide_eq_true (by omega)
                  have hz : copA (rowT to_ (to_ + len - 1)) fr to_ (fun i => (mix n (valM m) (fun _ => 0)) (fr + i)) i y = cpM (noteM (byteM y (to_ + i) (valM m (fr + i))) (nI 3) (nI (to_ + i)) (valM m (fr + i))) 3 := by
                    unfold copA
                    rw [hTi, if_pos rfl]
                    dsimp only
                    rw [mix_in hfi]
                  refine v_aload_n C dX7_copy_153 rfl ?_
                  refine v_gF (K := fun w => [cI (xK X) q n (mix n (valM m) (fun _ => 0))] ++ w) C (Cxt.l _ Cxt.id) (v := .ref (h 1)) 0 fl_X7_40 lm_0 rfl dX7_copy_154 ?_
                  refine v_iload_n C dX7_copy_157 rfl ?_
                  refine v_iload C dX7_copy_158 rfl ?_
                  first | refine v_iaddN C dX7_copy_160 ?_ | refine v_iadd C dX7_copy_160 ?_
                  refine v_gP (K := fun w => [cI (xK X) q n (mix n (valM m) (fun _ => 0))] ++ w) C (Cxt.l _ Cxt.id) (x := (some (h (8 + (to_ + i))))) 1 lm_1 (by first | decide | omega) (to_ + i) (if_pos (by omega)) ?_ rfl dX7_copy_161 ?_
                  · omega
                  refine v_aload C dX7_copy_162 rfl ?_
                  refine v_iload_n C dX7_copy_164 rfl ?_
                  refine v_iload C dX7_copy_165 rfl ?_
                  first | refine v_iaddN C dX7_copy_167 ?_ | refine v_iadd C dX7_copy_167 ?_
                  refine v_gI (K := fun w => w ++ lmW (xK X) h n (y, e, p)) (ws := [cI (xK X) q n (mix n (valM m) (fun _ => 0))]) C (Cxt.r _ Cxt.id) (x := (valM m (fr + i))) 0 rfl (by omega) (fr + i) (mix_in (by omega)) ?_ rfl dX7_copy_168 ?_
                  · omega
                  refine v_pFN (K := fun w => [cI (xK X) q n (mix n (valM m) (fun _ => 0))] ++ w) C (Cxt.l _ Cxt.id) (5 + (to_ + i)) fln_X7_65 fw_X8_1 (plc_at hti) rfl rfl (Nat.le_of_ble_eq_true rfl) (set_stored hti) dX7_copy_169 ?_
                  refine v_aload_n C dX7_copy_172 rfl ?_
                  refine v_aload_n C dX7_copy_173 rfl ?_
                  refine v_gF (K := fun w => [cI (xK X) q n (mix n (valM m) (fun _ => 0))] ++ w) C (Cxt.l _ Cxt.id) (v := .ref (h 1)) 0 fl_X7_40 lm_0 rfl dX7_copy_174 ?_
                  refine v_iload_n C dX7_copy_177 rfl ?_
                  refine v_iload C dX7_copy_178 rfl ?_
                  first | refine v_iaddN C dX7_copy_180 ?_ | refine v_iadd C dX7_copy_180 ?_
                  refine v_gP (K := fun w => [cI (xK X) q n (mix n (valM m) (fun _ => 0))] ++ w) C (Cxt.l _ Cxt.id) (x := (some (h (8 + (to_ + i))))) 1 lm_1 (by first | decide | omega) (to_ + i) (if_pos (by omega)) ?_ rfl dX7_copy_181 ?_
                  · omega
                  refine v_iconst (v := nI 3) C dX7_copy_182 (by decide) ?_
                  refine v_gVv (K := fun w => [cI (xK X) q n (mix n (valM m) (fun _ => 0))] ++ w) C (Cxt.l _ Cxt.id) 0 (c_X7_paid (m := byteM y (to_ + i) (valM m (fr + i))) hl (hEy.of rfl) (Or.inr (Or.inr rfl)) hti) ym_X7_paid ml_X7_142 lm_0 rfl rfl rfl dX7_copy_183 (by first | exact Nat.le_of_ble_eq_true rfl | omega) (by first | exact Nat.le_of_ble_eq_true rfl | omega) (by first | exact Nat.le_of_ble_eq_true rfl | omega) (Nat.le_of_ble_eq_true rfl) (fun _ _ hu => hu.elim) (fun r u hu => ?_)
                  obtain ⟨e4, rfl⟩ := hu
                  rw [show byteM y (to_ + i) (valM m (fr + i)) 1 (to_ + i) = valM m (fr + i) from (show upd (y 1) (to_ + i) (valM m (fr + i)) (to_ + i) = _ from upd_s)]
                  first | refine v_iinc1 C (lo2 := [some _, some _, some _, some _, some _, some _, some _, none, none]) dX7_copy_186 rfl rfl rfl ?_ | refine v_iinc C (lo2 := [some _, some _, some _, some _, some _, some _, some _, none, none]) dX7_copy_186 rfl rfl rfl rfl ?_
                  refine v_goto C 126 dX7_copy_189 (by decide) ?_
                  have hca := copA_ok (c := fun i => (mix n (valM m) (fun _ => 0)) (fr + i)) (fr := fr) (to_ := to_) (i := i) hIy hSy hEy
                  rw [forG_s (by omega : i < len), hz] at i2
                  rw [hz] at hca
                  refine V.wid (k2 := 30 + (i + 1)) (n2 := 102 + 3 * (i + 1)) (by omega) (by omega) ?_
                  first
                  | exact ih126 (i + 1, y, e) (by show len - (i + 1) < len - i; omega) ⟨by show i + 1 ≤ len; omega, i2, hca.1, hca.2.1, hca.2.2.1, hca.2.2.2.trans h5y⟩
                  | exact ih126 (i + 1, cpM (noteM (byteM y (to_ + i) (valM m (fr + i))) (nI 3) (nI (to_ + i)) (valM m (fr + i))) 3, e4) (by show len - (i + 1) < len - i; omega) ⟨by show i + 1 ≤ len; omega, i2, hca.1, hca.2.1, hca.2.2.1, hca.2.2.2.trans h5y⟩
                · have hTi : rowT to_ (to_ + len - 1) (fr + i) = false := decide_eq_false (by omega)
                  have hz : copA (rowT to_ (to_ + len - 1)) fr to_ (fun i => (mix n (valM m) (fun _ => 0)) (fr + i)) i y = y := by unfold copA; rw [hTi]; rfl
                  refine v_goto C 186 dX7_copy_150 (by decide) ?_
                  first | refine v_iinc1 C (lo2 := [some _, some _, some _, some _, some _, some _, some _, none, none]) dX7_copy_186 rfl rfl rfl ?_ | refine v_iinc C (lo2 := [some _, some _, some _, some _, some _, some _, some _, none, none]) dX7_copy_186 rfl rfl rfl rfl ?_
                  refine v_goto C 126 dX7_copy_189 (by decide) ?_
                  have hca := copA_ok (c := fun i => (mix n (valM m) (fun _ => 0)) (fr + i)) (fr := fr) (to_ := to_) (i := i) hIy hSy hEy
                  rw [forG_s (by omega : i < len), hz] at i2
                  rw [hz] at hca
                  refine V.wid (k2 := 30 + (i + 1)) (n2 := 102 + 3 * (i + 1)) (by omega) (by omega) ?_
                  first
                  | exact ih126 (i + 1, y, e) (by show len - (i + 1) < len - i; omega) ⟨by show i + 1 ≤ len; omega, i2, hca.1, hca.2.1, hca.2.2.1, hca.2.2.2.trans h5y⟩
                  | exact ih126 (i + 1, cpM (noteM (byteM y (to_ + i) (valM m (fr + i))) (nI 3) (nI (to_ + i)) (valM m (fr + i))) 3, e4) (by show len - (i + 1) < len - i; omega) ⟨by show i + 1 ≤ len; omega, i2, hca.1, hca.2.1, hca.2.2.1, hca.2.2.2.trans h5y⟩
          refine V.wid (k2 := 30 + 0) (n2 := 102 + 3 * 0) (by omega) (by omega) ?_
          have hyD : y = drpM (rowT to_ (to_ + len - 1)) n (copD n to_ len m) := by rw [← i2, show len - i = 0 by omega]; rfl
          exact L126 (0, y, e) ⟨Nat.zero_le _, by rw [hyD]; rfl, by rw [hyD]; exact hDI, by rw [hyD]; exact hDS, hEy, by rw [hyD]; exact hD5⟩
        · have hti : to_ + i < n := by omega
          refine v_aload_n C dX7_copy_104 rfl ?_
          refine v_aload_n C dX7_copy_105 rfl ?_
          refine v_gF (K := fun w => [cI (xK X) q n (mix n (valM m) (fun _ => 0))] ++ w) C (Cxt.l _ Cxt.id) (v := .ref (h 1)) 0 fl_X7_40 lm_0 rfl dX7_copy_106 ?_
          refine v_iload_n C dX7_copy_109 rfl ?_
          refine v_iload C dX7_copy_110 rfl ?_
          first | refine v_iaddN C dX7_copy_112 ?_ | refine v_iadd C dX7_copy_112 ?_
          refine v_gP (K := fun w => [cI (xK X) q n (mix n (valM m) (fun _ => 0))] ++ w) C (Cxt.l _ Cxt.id) (x := (some (h (8 + (to_ + i))))) 1 lm_1 (by first | decide | omega) (to_ + i) (if_pos (by omega)) ?_ rfl dX7_copy_113 ?_
          · omega
          refine v_gVv (K := fun w => [cI (xK X) q n (mix n (valM m) (fun _ => 0))] ++ w) C (Cxt.l _ Cxt.id) 0 (c_X7_drop hl hEy hti) ym_X7_drop ml_X7_117 lm_0 rfl rfl rfl dX7_copy_114 (by first | exact Nat.le_of_ble_eq_true rfl | omega) (by first | exact Nat.le_of_ble_eq_true rfl | omega) (by first | exact Nat.le_of_ble_eq_true rfl | omega) (Nat.le_of_ble_eq_true rfl) (fun _ _ hu => hu.elim) (fun r u hu => ?_)
          obtain ⟨e3, rfl⟩ := hu
          first | refine v_iinc1 C (lo2 := [some _, some _, some _, some _, some _, some _, some _, none, none]) dX7_copy_117 rfl rfl rfl ?_ | refine v_iinc C (lo2 := [some _, some _, some _, some _, some _, some _, some _, none, none]) dX7_copy_117 rfl rfl rfl rfl ?_
          refine v_goto C 98 dX7_copy_120 (by decide) ?_
          rw [show len - i = (len - (i + 1)) + 1 by omega] at i2
          refine V.wid (k2 := 16 + (i + 1)) (n2 := 60 + 3 * (i + 1)) (by omega) (by omega) ?_
          exact ih98 (i + 1, dropO y (to_ + i), e3) (by show len - (i + 1) < len - i; omega) ⟨by show i + 1 ≤ len; omega, i2, drop_ev hEy⟩
      refine V.sub (lo2 := [some _, some _, some _, some _, some _, some _, some _, none, none]) ⟨rfl, rfl, rfl, rfl, rfl, rfl, rfl, trivial⟩ ?_
      refine V.wid (k2 := 16 + 0) (n2 := 60 + 3 * 0) (by omega) (by omega) ?_
      exact L98 (0, copD n to_ len m, e2) ⟨Nat.zero_le _, drop_row hln ht, hCDE⟩
    · have hin : i < n := c27
      refine v_aload C dX7_copy_30 rfl ?_
      refine v_iload C dX7_copy_32 rfl ?_
      refine v_gP (K := fun w => [cI (xK X) q n (mix i (valM m) (fun _ => 0))] ++ w) C (Cxt.l _ Cxt.id) (x := (some (h (8 + i)))) 1 lm_1 (by first | decide | omega) i (if_pos (by omega)) ?_ rfl dX7_copy_34 ?_
      · omega
      refine v_astore C (lo2 := [some _, some _, some _, some _, some _, some _, some _, some _, some _]) dX7_copy_35 rfl (Nat.le_of_ble_eq_true rfl) rfl ?_
      refine v_aload C dX7_copy_37 rfl ?_
      refine v_aload C dX7_copy_39 rfl ?_
      refine v_gFN (K := fun w => [cI (xK X) q n (mix i (valM m) (fun _ => 0))] ++ w) C (Cxt.l _ Cxt.id) (v := .int (nI i)) (5 + i) fln_X7_124 (plc_at (by omega)) rfl dX7_copy_41 ?_
      refine v_aload C dX7_copy_44 rfl ?_
      refine v_gVi (K := fun w => [cI (xK X) q n (mix i (valM m) (fun _ => 0))] ++ w) C (Cxt.l _ Cxt.id) (5 + i) (c_X8_value hl hI h14 (by omega)) ym_X8_value ml_X7_105 (plc_at (by omega)) rfl rfl rfl dX7_copy_46 (by first | exact Nat.le_of_ble_eq_true rfl | omega) (by first | exact Nat.le_of_ble_eq_true rfl | omega) (by first | exact Nat.le_of_ble_eq_true rfl | omega) (Nat.le_of_ble_eq_true rfl) (fun _ _ hu => hu.elim) (fun r u hu => ?_)
      obtain ⟨rfl, rfl⟩ := hu
      refine v_sI (K := fun w => w ++ lmW (xK X) h n (m, e, p)) (ws := [cI (xK X) q n (mix i (valM m) (fun _ => 0))]) C (Cxt.r _ Cxt.id) 0 rfl (by first | decide | omega) i ?_ rfl rfl dX7_copy_49 ?_
      · first | decide | omega
      refine V.stt (g2 := [cI (xK X) q n (mix (i + 1) (valM m) (fun _ => 0))] ++ lmW (xK X) h n (m, e, p)) ((by rw [← mix_s]; rfl)) ?_
      first | refine v_iinc1 C (lo2 := [some _, some _, some _, some _, some _, some _, some _, some _, some _]) dX7_copy_50 rfl rfl rfl ?_ | refine v_iinc C (lo2 := [some _, some _, some _, some _, some _, some _, some _, some _, some _]) dX7_copy_50 rfl rfl rfl rfl ?_
      refine v_goto C 23 dX7_copy_53 (by decide) ?_
      refine V.sub (lo2 := [some _, some _, some _, some _, some _, some _, some _, some _, none]) ⟨rfl, rfl, rfl, rfl, rfl, rfl, rfl, rfl, trivial⟩ ?_
      exact ih23 (i + 1) (by show n - (i + 1) < n - i; omega) (by show i + 1 ≤ n; omega)
  refine V.wid (k2 := 1) (n2 := n) (by omega) (by omega) ?_
  exact L23 0 (Nat.zero_le _)
