set_option maxHeartbeats 16000000 in
theorem c_X6_paysOwing {l : Launch} (hl : l.stackTraces = false) {κ : Kp} {h : Nat → Nat} {g : G} {m : Mg} {n a b : Nat} (hR : RowR m (g 1)) (hE : EvOK m) (hI : IM m n) (hs : g 0 2 = nI n) (ha : a < 2 ^ 31) (hb : b < 2 ^ 31) : Ct SS MM l κ yX6_paysOwing cX6_paysOwing 5 (some FieldType.int) 4 0 0 [.ref (h 0), .int (nI a), .int (nI b)] (qS κ h) g ri (fun r u => r = nI (depM (rowT a b) n m).1 ∧ ∃ f, u = sG g 1 f ∧ RowR (depM (rowT a b) n m).2 f) (fun _ _ => False) := by
  refine Ct.of (own := RX6) (by decide) rfl hl (by intro v hv; simp only [List.mem_cons, List.not_mem_nil, or_false] at hv; first | (rcases hv with rfl | rfl | rfl | rfl | rfl | rfl <;> rfl) | (rcases hv with rfl | rfl | rfl | rfl | rfl <;> rfl) | (rcases hv with rfl | rfl | rfl | rfl <;> rfl) | (rcases hv with rfl | rfl | rfl <;> rfl) | (rcases hv with rfl | rfl <;> rfl) | (subst hv; rfl) | exact hv.elim) (Nat.le_of_ble_eq_true rfl) (fun X hxl hxk C F N => ?_)
  subst hxl hxk
  show V X (qS (xK X) h) 0 [some (.ref (h 0)), some (.int (nI a)), some (.int (nI b)), none, none] [] g 0 0
  have h96 := hI.2.1
  have ea := nI_toInt ha
  have eb := nI_toInt hb
  refine v_iconst (v := nI 0) C dX6_paysOwing_0 (by decide) ?_
  refine v_istore_n C (lo2 := [some _, some _, some _, some _, none]) dX6_paysOwing_1 rfl (Nat.le_of_ble_eq_true rfl) rfl ?_
  refine v_iconst (v := nI 0) C dX6_paysOwing_2 (by decide) ?_
  refine v_istore C (lo2 := [some _, some _, some _, some _, some _]) dX6_paysOwing_3 rfl (Nat.le_of_ble_eq_true rfl) rfl ?_
  have L5 : ∀ (t : Nat × (Nat × Mg) × (Nat → Int32)), (fun t => forG (depS (rowT a b)) t.1 (n - t.1) t.2.1 = depM (rowT a b) n m ∧ Pd n m t.2.1.2 ∧ RowR t.2.1.2 t.2.2 ∧ t.2.1.1 ≤ t.1 ∧ t.1 ≤ n) t → (fun t : Nat × (Nat × Mg) × (Nat → Int32) => V X (qS (xK X) h) 5 [some (.ref (h 0)), some (.int (nI a)), some (.int (nI b)), some (.int (nI t.2.1.1)), some (.int (nI t.1))] [] (sG g 1 t.2.2) 0 0) t := by
    refine v_ind (fun t : Nat × (Nat × Mg) × (Nat → Int32) => n - t.1) ?_
    rintro ⟨i, ⟨c, y⟩, f⟩ ih5 hI5
    try dsimp only at hI5 ⊢
    obtain ⟨i1, i2, hRy, i3, i4⟩ := hI5
    have hyI : IM y n := i2.im hI
    have hyE : EvOK y := i2.1.2.2.2.2 hE
    have hRy : RowR y f := hRy
    have i3 : c ≤ i := i3
    refine v_iload C dX6_paysOwing_5 rfl ?_
    refine v_aload_n C dX6_paysOwing_7 rfl ?_
    refine v_getiQ (x := nI n) C fl_X6_126 oi_qS_0_2 (hs) dX6_paysOwing_8 ?_
    first | refine v_icmp_geN C 58 dX6_paysOwing_11 (by decide) (by omega) (by omega) (fun c11 => ?_) (fun c11 => ?_) | refine v_icmp_ge C 58 dX6_paysOwing_11 (by decide) (fun c11 => ?_) (fun c11 => ?_)
    · refine v_iload_n C dX6_paysOwing_58 rfl ?_
      refine v_iret C F (by first | rfl | exact bI_nar _) dX6_paysOwing_59 (Nat.le_of_ble_eq_true rfl) (Nat.le_of_ble_eq_true rfl) ?_
      rw [forG_0 (by omega)] at i1
      rw [← i1]
      exact ⟨rfl, f, rfl, hRy⟩
    · refine v_iload C dX6_paysOwing_14 rfl ?_
      refine v_iload_n C dX6_paysOwing_16 rfl ?_
      refine v_iload_n C dX6_paysOwing_17 rfl ?_
      refine v_callSi C (c_X6_in hl (v := nI i) ea eb) ys_X6_in rfl ml_X6_98 (emb_n fix_qS) rfl rfl rfl dX6_paysOwing_18 (Nat.le_of_ble_eq_true rfl) (Nat.le_of_ble_eq_true rfl) (Nat.le_of_ble_eq_true rfl) (Nat.le_of_ble_eq_true rfl) (fun _ _ hu => hu.elim) (fun r u hu => ?_)
      subst r
      rw [in_row (by omega)]
      refine v_if_neB C 52 dX6_paysOwing_21 (by decide) (fun c21 => ?_) (fun c21 => ?_)
      · first | refine v_iinc1 C (lo2 := [some _, some _, some _, some _, some _]) dX6_paysOwing_52 rfl rfl rfl ?_ | refine v_iinc C (lo2 := [some _, some _, some _, some _, some _]) dX6_paysOwing_52 rfl rfl rfl rfl ?_
        refine v_goto C 5 dX6_paysOwing_55 (by decide) ?_
        have hib : i < n := by omega
        rw [forG_s hib] at i1
        have hmu : n - (i + 1) < n - i := by omega
        first
        | (have hz : depS (rowT a b) i (c, y) = (c + 1, payM 2 y i) := if_pos (by show (!(rowT a b) i && (owb y i && (rowT a b) (src y i))) = true; rw [c21, c39]; rfl)
           rw [hz] at i1
           exact ih5 (i + 1, (c + 1, payM 2 y i), f3) hmu ⟨i1, (show Pd n m (payM 2 y i) from i2.trans hI (payM_Pd hib)), hR3, by show c + 1 ≤ i + 1; omega, by show i + 1 ≤ n; omega⟩)
        | (have hz : depS (rowT a b) i (c, y) = (c, y) := if_neg (by show ¬ (!(rowT a b) i && (owb y i && (rowT a b) (src y i))) = true; first | (rw [c21]; exact Bool.false_ne_true) | (rw [c39, Bool.and_false]; exact Bool.false_ne_true))
           rw [hz] at i1
           exact ih5 (i + 1, (c, y), f) hmu ⟨i1, i2, hRy, by show c ≤ i + 1; omega, by show i + 1 ≤ n; omega⟩)
      · refine v_aload_n C dX6_paysOwing_24 rfl ?_
        refine v_getr C fl_X6_7 or_qS_0_3 dX6_paysOwing_25 ?_
        refine v_bipush (v := nI 96) C dX6_paysOwing_28 (by decide) ?_
        refine v_iload C dX6_paysOwing_30 rfl ?_
        first | refine v_iaddN C dX6_paysOwing_32 ?_ | refine v_iadd C dX6_paysOwing_32 ?_
        refine v_ialdQ (x := y 2 i) C ar_qS_1 (by decide) _ (hRy.s (by omega)) ?_ rfl dX6_paysOwing_33 ?_
        · omega
        refine v_iload_n C dX6_paysOwing_34 rfl ?_
        refine v_iload_n C dX6_paysOwing_35 rfl ?_
        refine v_callSi C (c_X6_in hl (v := y 2 i) ea eb) ys_X6_in rfl ml_X6_98 (emb_n fix_qS) rfl rfl rfl dX6_paysOwing_36 (Nat.le_of_ble_eq_true rfl) (Nat.le_of_ble_eq_true rfl) (Nat.le_of_ble_eq_true rfl) (Nat.le_of_ble_eq_true rfl) (fun _ _ hu => hu.elim) (fun r u hu => ?_)
        subst r
        rw [in_src hyI (show i < n by omega)]
        refine v_if_eqB C 52 dX6_paysOwing_39 (by decide) (fun c39 => ?_) (fun c39 => ?_)
        · first | refine v_iinc1 C (lo2 := [some _, some _, some _, some _, some _]) dX6_paysOwing_52 rfl rfl rfl ?_ | refine v_iinc C (lo2 := [some _, some _, some _, some _, some _]) dX6_paysOwing_52 rfl rfl rfl rfl ?_
          refine v_goto C 5 dX6_paysOwing_55 (by decide) ?_
          have hib : i < n := by omega
          rw [forG_s hib] at i1
          have hmu : n - (i + 1) < n - i := by omega
          first
          | (have hz : depS (rowT a b) i (c, y) = (c + 1, payM 2 y i) := if_pos (by show (!(rowT a b) i && (owb y i && (rowT a b) (src y i))) = true; rw [c21, c39]; rfl)
             rw [hz] at i1
             exact ih5 (i + 1, (c + 1, payM 2 y i), f3) hmu ⟨i1, (show Pd n m (payM 2 y i) from i2.trans hI (payM_Pd hib)), hR3, by show c + 1 ≤ i + 1; omega, by show i + 1 ≤ n; omega⟩)
          | (have hz : depS (rowT a b) i (c, y) = (c, y) := if_neg (by show ¬ (!(rowT a b) i && (owb y i && (rowT a b) (src y i))) = true; first | (rw [c21]; exact Bool.false_ne_true) | (rw [c39, Bool.and_false]; exact Bool.false_ne_true))
             rw [hz] at i1
             exact ih5 (i + 1, (c, y), f) hmu ⟨i1, i2, hRy, by show c ≤ i + 1; omega, by show i + 1 ≤ n; omega⟩)
        · refine v_aload_n C dX6_paysOwing_42 rfl ?_
          refine v_iload C dX6_paysOwing_43 rfl ?_
          refine v_iconst (v := nI 2) C dX6_paysOwing_45 (by decide) ?_
          refine v_callVv C (c_X6_pays hl (g := sG g 1 f) (m := y) (n := n) (k := 2) hRy hyE hyI (by decide) (by omega)) ym_X6_pays ml_X6_282 emb_id_qS rfl rfl rfl rfl rfl dX6_paysOwing_46 (Nat.le_of_ble_eq_true rfl) (Nat.le_of_ble_eq_true rfl) (Nat.le_of_ble_eq_true rfl) (Nat.le_of_ble_eq_true rfl) (fun _ _ hu => hu.elim) (fun r u hu => ?_)
          obtain ⟨f3, hu, hR3⟩ := hu
          subst u
          refine V.stt (g2 := (sG g 1 f3)) (sG_sG) ?_
          first | refine v_iinc1 C (lo2 := [some _, some _, some _, some _, some _]) dX6_paysOwing_49 rfl rfl rfl ?_ | refine v_iinc C (lo2 := [some _, some _, some _, some _, some _]) dX6_paysOwing_49 rfl rfl rfl rfl ?_
          first | refine v_iinc1 C (lo2 := [some _, some _, some _, some _, some _]) dX6_paysOwing_52 rfl rfl rfl ?_ | refine v_iinc C (lo2 := [some _, some _, some _, some _, some _]) dX6_paysOwing_52 rfl rfl rfl rfl ?_
          refine v_goto C 5 dX6_paysOwing_55 (by decide) ?_
          have hib : i < n := by omega
          rw [forG_s hib] at i1
          have hmu : n - (i + 1) < n - i := by omega
          first
          | (have hz : depS (rowT a b) i (c, y) = (c + 1, payM 2 y i) := if_pos (by show (!(rowT a b) i && (owb y i && (rowT a b) (src y i))) = true; rw [c21, c39]; rfl)
             rw [hz] at i1
             exact ih5 (i + 1, (c + 1, payM 2 y i), f3) hmu ⟨i1, (show Pd n m (payM 2 y i) from i2.trans hI (payM_Pd hib)), hR3, by show c + 1 ≤ i + 1; omega, by show i + 1 ≤ n; omega⟩)
          | (have hz : depS (rowT a b) i (c, y) = (c, y) := if_neg (by show ¬ (!(rowT a b) i && (owb y i && (rowT a b) (src y i))) = true; first | (rw [c21]; exact Bool.false_ne_true) | (rw [c39, Bool.and_false]; exact Bool.false_ne_true))
             rw [hz] at i1
             exact ih5 (i + 1, (c, y), f) hmu ⟨i1, i2, hRy, by show c ≤ i + 1; omega, by show i + 1 ≤ n; omega⟩)
  have H := L5 (0, (0, m), g 1) ⟨rfl, Pd.rfl, hR, Nat.le_refl _, Nat.zero_le _⟩
  try dsimp only at H
  rw [sG_id rfl] at H
  exact H
set_option maxHeartbeats 16000000 in
theorem c_X6_paysToLimit {l : Launch} (hl : l.stackTraces = false) {κ : Kp} {h : Nat → Nat} {g : G} {m : Mg} {n lim : Nat} (hR : RowR m (g 1)) (hE : EvOK m) (hI : IM m n) (hs : g 0 2 = nI n) (hL : m 5 1 = nI lim) (hl96 : lim ≤ 96) : Ct SS MM l κ yX6_paysToLimit cX6_paysToLimit 2 none 4 0 0 [.ref (h 0)] (qS κ h) g rv (fun _ u => ∃ f, u = sG g 1 f ∧ RowR (klM n m) f) (fun _ _ => False) := by
  refine Ct.of (own := RX6) (by decide) rfl hl (by intro v hv; simp only [List.mem_cons, List.not_mem_nil, or_false] at hv; first | (rcases hv with rfl | rfl | rfl | rfl | rfl | rfl <;> rfl) | (rcases hv with rfl | rfl | rfl | rfl | rfl <;> rfl) | (rcases hv with rfl | rfl | rfl | rfl <;> rfl) | (rcases hv with rfl | rfl | rfl <;> rfl) | (rcases hv with rfl | rfl <;> rfl) | (subst hv; rfl) | exact hv.elim) (Nat.le_of_ble_eq_true rfl) (fun X hxl hxk C F N => ?_)
  subst hxl hxk
  show V X (qS (xK X) h) 0 [some (.ref (h 0)), none] [] g 0 0
  have h96 := hI.2.1
  have hc := cntG_le (f := owb m) n 0
  have hkl : klM n m = payK 2 n (cntG (owb m) 0 n - lim) m := by
    unfold klM limN
    rw [hL, nI_toInt (by omega)]
    rfl
  refine v_aload_n C dX6_paysToLimit_0 rfl ?_
  refine v_callVi C (c_X6_owedNow hl hR hs h96) ym_X6_owedNow ml_X6_236 emb_id_qS rfl rfl rfl rfl rfl dX6_paysToLimit_1 (Nat.le_of_ble_eq_true rfl) (Nat.le_of_ble_eq_true rfl) (Nat.le_of_ble_eq_true rfl) (Nat.le_of_ble_eq_true rfl) (fun _ _ hu => hu.elim) (fun r u hu => ?_)
  obtain ⟨rfl, hu⟩ := hu
  subst u
  refine v_istore_n C (lo2 := [some _, some _]) dX6_paysToLimit_4 rfl (Nat.le_of_ble_eq_true rfl) rfl ?_
  have L5 : ∀ (t : Nat × (Nat → Int32)), (fun t => t.1 ≤ cntG (owb m) 0 n - lim ∧ RowR (payK 2 n t.1 m) t.2) t → (fun t : Nat × (Nat → Int32) => V X (qS (xK X) h) 5 [some (.ref (h 0)), some (.int (nI (cntG (owb m) 0 n - t.1)))] [] (sG g 1 t.2) 0 0) t := by
    refine v_ind (fun t : Nat × (Nat → Int32) => cntG (owb m) 0 n - lim - t.1) ?_
    rintro ⟨k, f⟩ ih5 hI5
    try dsimp only at hI5 ⊢
    obtain ⟨i1, hRy⟩ := hI5
    have i1 : k ≤ cntG (owb m) 0 n - lim := i1
    have hRy : RowR (payK 2 n k m) f := hRy
    have hk := payK_ok (kind := 2) (k := k) hI
    have hyI := hk.1.im hI
    have hyE := hk.1.1.2.2.2.2 hE
    have hy1 : (payK 2 n k m) 5 1 = nI lim := by rw [hk.1.1.2.2.1]; exact hL
    refine v_iload_n C dX6_paysToLimit_5 rfl ?_
    refine v_aload_n C dX6_paysToLimit_6 rfl ?_
    refine v_getr C fl_X6_7 or_qS_0_3 dX6_paysToLimit_7 ?_
    refine v_sipush (v := nI 385) C dX6_paysToLimit_10 (by decide) ?_
    refine v_ialdQ (x := nI lim) C ar_qS_1 (by decide) _ ((hRy.t (k := 1) (by decide)).trans hy1) ?_ rfl dX6_paysToLimit_13 ?_
    · omega
    first | refine v_icmp_leN C 32 dX6_paysToLimit_14 (by decide) (by omega) (by omega) (fun c14 => ?_) (fun c14 => ?_) | refine v_icmp_le C 32 dX6_paysToLimit_14 (by decide) (fun c14 => ?_) (fun c14 => ?_)
    · have hkk : k = cntG (owb m) 0 n - lim := by omega
      refine v_vret C F dX6_paysToLimit_32 (Nat.le_of_ble_eq_true rfl) (Nat.le_of_ble_eq_true rfl) ?_
      rw [hkl, ← hkk]
      exact ⟨f, rfl, hRy⟩
    · obtain ⟨q, hq, hqn, hqo⟩ := next_some (m := payK 2 n k m) (n := n) (pol := (payK 2 n k m) 5 2) (by rw [hk.2]; omega)
      have eq0 : oN (nextM (payK 2 n k m) n ((payK 2 n k m) 5 2)) = nI q := by rw [hq]; rfl
      have hpn : payM 2 (payK 2 n k m) q = payK 2 n (k + 1) m := by
        rw [payK_s, ← payN_some hq hqo]
        exact (if_pos hqo).symm
      refine v_aload_n C dX6_paysToLimit_17 rfl ?_
      refine v_aload_n C dX6_paysToLimit_18 rfl ?_
      refine v_callVi C (c_X6_nextNow hl (g := sG g 1 f) (m := payK 2 n k m) (n := n) hRy hs hyI) ym_X6_nextNow ml_X6_260 emb_id_qS rfl rfl rfl rfl rfl dX6_paysToLimit_19 (Nat.le_of_ble_eq_true rfl) (Nat.le_of_ble_eq_true rfl) (Nat.le_of_ble_eq_true rfl) (Nat.le_of_ble_eq_true rfl) (fun _ _ hu => hu.elim) (fun r u hu => ?_)
      obtain ⟨rfl, hu⟩ := hu
      subst u
      rw [eq0]
      refine V.stt (g2 := (sG g 1 f)) (rfl) ?_
      refine v_iconst (v := nI 2) C dX6_paysToLimit_22 (by decide) ?_
      refine v_callVv C (c_X6_pays hl (g := sG g 1 f) (m := payK 2 n k m) (n := n) (k := 2) (p := q) hRy hyE hyI (by decide) hqn) ym_X6_pays ml_X6_282 emb_id_qS rfl rfl rfl rfl rfl dX6_paysToLimit_23 (Nat.le_of_ble_eq_true rfl) (Nat.le_of_ble_eq_true rfl) (Nat.le_of_ble_eq_true rfl) (Nat.le_of_ble_eq_true rfl) (fun _ _ hu => hu.elim) (fun r u hu => ?_)
      obtain ⟨f3, hu, hR3⟩ := hu
      subst u
      refine V.stt (g2 := (sG g 1 f3)) (sG_sG) ?_
      refine v_iinc C (lo2 := [some _, some _]) dX6_paysToLimit_26 rfl rfl rfl rfl ?_
      refine v_goto C 5 dX6_paysToLimit_29 (by decide) ?_
      rw [hpn] at hR3
      rw [nI_dec (by omega), Nat.sub_sub]
      exact ih5 (k + 1, f3) (by show cntG (owb m) 0 n - lim - (k + 1) < cntG (owb m) 0 n - lim - k; omega) ⟨by show k + 1 ≤ cntG (owb m) 0 n - lim; omega, hR3⟩
  have H := L5 (0, g 1) ⟨Nat.zero_le _, hR⟩
  try dsimp only at H
  rw [sG_id rfl] at H
  exact H
theorem why_in {m : Mg} {n : Nat} {v len : Int32} (hn : m 0 7 = nI n) (h96 : n ≤ 96) (h1 : 1 ≤ len.toInt) (h2 : len.toInt ≤ (n : Int)) : inB v 0 ((n : Int) - len.toInt) = (isP m v && decide (len.toInt ≤ (n : Int) - v.toInt)) := by
  rw [isP_pl hn h96, Bool.eq_iff_iff]
  unfold plB inB
  simp only [Bool.and_eq_true, decide_eq_true_eq]
  omega
theorem sub_toInt2 {x y : Int32} {n : Int} (h : 0 ≤ y.toInt ∧ y.toInt ≤ x.toInt) (hx : x.toInt = n) : (x - y).toInt = n - y.toInt := by
  have a1 := Int32.toInt_lt x
  rw [Int32.toInt_sub, Int.bmod_eq_of_le] <;> omega
theorem why_big {m : Mg} {n : Nat} {a b len : Int32} (hn : m 0 7 = nI n) (h96 : n ≤ 96) (h1 : ¬ len.toInt < 1) (h2 : (n : Int) < len.toInt) : refM m n a b len = nI 2 := by
  unfold refM
  rw [if_neg h1, isP_pl hn h96]
  refine if_neg (fun z => ?_)
  simp only [Bool.and_eq_true, decide_eq_true_eq] at z
  have := (inB_t z.1.1).1
  omega
set_option maxHeartbeats 16000000 in
theorem c_X6_whyNot {l : Launch} (hl : l.stackTraces = false) {κ : Kp} {h : Nat → Nat} {g : G} {m : Mg} {n : Nat} {v w k : Int32} (hR : RowR m (g 1)) (hs : g 0 2 = nI n) (hn : m 0 7 = nI n) (h96 : n ≤ 96) (hLK : LK m) : Ct SS MM l κ yX6_whyNot cX6_whyNot 5 (some FieldType.int) 1 0 0 [.ref (h 0), .int v, .int w, .int k] (qS κ h) g ri (fun r u => r = refM m n v w k ∧ u = g) (fun _ _ => False) := by
  refine Ct.of (own := RX6) (by decide) rfl hl (by intro v hv; simp only [List.mem_cons, List.not_mem_nil, or_false] at hv; first | (rcases hv with rfl | rfl | rfl | rfl | rfl | rfl <;> rfl) | (rcases hv with rfl | rfl | rfl | rfl | rfl <;> rfl) | (rcases hv with rfl | rfl | rfl | rfl <;> rfl) | (rcases hv with rfl | rfl | rfl <;> rfl) | (rcases hv with rfl | rfl <;> rfl) | (subst hv; rfl) | exact hv.elim) (Nat.le_of_ble_eq_true rfl) (fun X hxl hxk C F N => ?_)
  subst hxl hxk
  show V X (qS (xK X) h) 0 [some (.ref (h 0)), some (.int v), some (.int w), some (.int k), none] [] g 0 0
  have en := nI_toInt (n := n) (by omega)
  have e1 := nI_toInt (n := 1) (by omega)
  refine v_iload_n C dX6_whyNot_0 rfl ?_
  refine v_iconst (v := nI 1) C dX6_whyNot_1 (by decide) ?_
  refine v_icmp_ge C 7 dX6_whyNot_2 (by decide) (fun c2 => ?_) (fun c2 => ?_)
  · rw [e1] at c2
    refine v_iload_n C dX6_whyNot_7 rfl ?_
    refine v_aload_n C dX6_whyNot_8 rfl ?_
    refine v_getiQ (x := nI n) C fl_X6_126 oi_qS_0_2 (hs) dX6_whyNot_9 ?_
    refine v_icmp_gt C 43 dX6_whyNot_12 (by decide) (fun c12 => ?_) (fun c12 => ?_)
    · rw [en] at c12
      refine v_iconst (v := nI 2) C dX6_whyNot_43 (by decide) ?_
      refine v_iret C F (by first | rfl | exact bI_nar _) dX6_whyNot_44 (Nat.le_of_ble_eq_true rfl) (Nat.le_of_ble_eq_true rfl) ?_
      refine ⟨?_, rfl⟩
      first
      | exact (why_big hn h96 (by omega) (by omega)).symm
      | (have z1 := c26
         rw [why_in hn h96 (by omega) (by omega)] at z1
         unfold refM
         rw [if_neg (by omega), z1]
         rfl)
      | (have z1 := c26
         have z2 := c40
         rw [why_in hn h96 (by omega) (by omega)] at z1 z2
         unfold refM
         rw [if_neg (by omega), z1, z2]
         rfl)
    · rw [en] at c12
      have esub : (nI n - k).toInt = (n : Int) - k.toInt := sub_toInt2 (by rw [en]; omega) en
      refine v_iload_n C dX6_whyNot_15 rfl ?_
      refine v_iconst (v := nI 0) C dX6_whyNot_16 (by decide) ?_
      refine v_aload_n C dX6_whyNot_17 rfl ?_
      refine v_getiQ (x := nI n) C fl_X6_126 oi_qS_0_2 (hs) dX6_whyNot_18 ?_
      refine v_iload_n C dX6_whyNot_21 rfl ?_
      first | refine v_isubN C dX6_whyNot_22 (by omega) ?_ | refine v_isub C dX6_whyNot_22 ?_
      refine v_callSi C (c_X6_in hl (a := 0) (b := (n : Int) - k.toInt) (by decide) esub) ys_X6_in rfl ml_X6_98 (emb_n fix_qS) rfl rfl rfl dX6_whyNot_23 (Nat.le_of_ble_eq_true rfl) (Nat.le_of_ble_eq_true rfl) (Nat.le_of_ble_eq_true rfl) (Nat.le_of_ble_eq_true rfl) (fun _ _ hu => hu.elim) (fun r u hu => ?_)
      subst r
      refine v_if_eqB C 43 dX6_whyNot_26 (by decide) (fun c26 => ?_) (fun c26 => ?_)
      · refine v_iconst (v := nI 2) C dX6_whyNot_43 (by decide) ?_
        refine v_iret C F (by first | rfl | exact bI_nar _) dX6_whyNot_44 (Nat.le_of_ble_eq_true rfl) (Nat.le_of_ble_eq_true rfl) ?_
        refine ⟨?_, rfl⟩
        first
        | exact (why_big hn h96 (by omega) (by omega)).symm
        | (have z1 := c26
           rw [why_in hn h96 (by omega) (by omega)] at z1
           unfold refM
           rw [if_neg (by omega), z1]
           rfl)
        | (have z1 := c26
           have z2 := c40
           rw [why_in hn h96 (by omega) (by omega)] at z1 z2
           unfold refM
           rw [if_neg (by omega), z1, z2]
           rfl)
      · refine v_iload_n C dX6_whyNot_29 rfl ?_
        refine v_iconst (v := nI 0) C dX6_whyNot_30 (by decide) ?_
        refine v_aload_n C dX6_whyNot_31 rfl ?_
        refine v_getiQ (x := nI n) C fl_X6_126 oi_qS_0_2 (hs) dX6_whyNot_32 ?_
        refine v_iload_n C dX6_whyNot_35 rfl ?_
        first | refine v_isubN C dX6_whyNot_36 (by omega) ?_ | refine v_isub C dX6_whyNot_36 ?_
        refine v_callSi C (c_X6_in hl (a := 0) (b := (n : Int) - k.toInt) (by decide) esub) ys_X6_in rfl ml_X6_98 (emb_n fix_qS) rfl rfl rfl dX6_whyNot_37 (Nat.le_of_ble_eq_true rfl) (Nat.le_of_ble_eq_true rfl) (Nat.le_of_ble_eq_true rfl) (Nat.le_of_ble_eq_true rfl) (fun _ _ hu => hu.elim) (fun r u hu => ?_)
        subst r
        refine v_if_neB C 45 dX6_whyNot_40 (by decide) (fun c40 => ?_) (fun c40 => ?_)
        · have z1 := c26
          have z2 := c40
          rw [why_in hn h96 (by omega) (by omega)] at z1 z2
          have hif : refM m n v w k = if anyG (lockB m) w.toInt.toNat k.toInt.toNat then nI 3 else nI 0 := by
            unfold refM
            rw [if_neg (by omega), z1, z2]
            rfl
          rw [isP_pl hn h96, Bool.and_eq_true] at z2
          obtain ⟨jw, hjw, ew⟩ := pl_at z2.1
          have z3 := of_decide_eq_true z2.2
          subst ew
          rw [nI_toInt (by omega)] at z3 hif
          obtain ⟨ek, hk31⟩ := nI_of_nonneg (x := k) (by omega)
          have hjk : jw + k.toInt.toNat ≤ n := by omega
          generalize k.toInt.toNat = l at ek hk31 hjk hif
          subst ek
          rw [show ((jw : Int)).toNat = jw from rfl] at hif
          refine v_iconst (v := nI 0) C dX6_whyNot_45 (by decide) ?_
          refine v_istore C (lo2 := [some _, some _, some _, some _, some _]) dX6_whyNot_46 rfl (Nat.le_of_ble_eq_true rfl) rfl ?_
          have L48 : ∀ (t : Nat), (fun t => t ≤ l ∧ anyG (lockB m) (jw + t) (l - t) = anyG (lockB m) jw l) t → (fun t : Nat => V X (qS (xK X) h) 48 [some (.ref (h 0)), some (.int v), some (.int (nI jw)), some (.int (nI l)), some (.int (nI t))] [] g 0 0) t := by
            refine v_ind (fun t : Nat => l - t) ?_
            rintro i ih48 hI48
            try dsimp only at hI48 ⊢
            obtain ⟨i1, i3⟩ := hI48
            have hun : i < l → anyG (lockB m) (jw + i) (l - i) = (lockB m (jw + i) || anyG (lockB m) (jw + (i + 1)) (l - (i + 1))) := fun z => by
              rw [show l - i = (l - (i + 1)) + 1 by omega]
              rfl
            refine v_iload C dX6_whyNot_48 rfl ?_
            refine v_iload_n C dX6_whyNot_50 rfl ?_
            first | refine v_icmp_geN C 79 dX6_whyNot_51 (by decide) (by omega) (by omega) (fun c51 => ?_) (fun c51 => ?_) | refine v_icmp_ge C 79 dX6_whyNot_51 (by decide) (fun c51 => ?_) (fun c51 => ?_)
            · refine v_iconst (v := nI 0) C dX6_whyNot_79 (by decide) ?_
              refine v_iret C F (by first | rfl | exact bI_nar _) dX6_whyNot_80 (Nat.le_of_ble_eq_true rfl) (Nat.le_of_ble_eq_true rfl) ?_
              rw [show l - i = 0 by omega] at i3
              exact ⟨by rw [hif, ← i3]; rfl, rfl⟩
            · refine v_aload_n C dX6_whyNot_54 rfl ?_
              refine v_getr C fl_X6_7 or_qS_0_3 dX6_whyNot_55 ?_
              refine v_sipush (v := nI 288) C dX6_whyNot_58 (by decide) ?_
              refine v_iload_n C dX6_whyNot_61 rfl ?_
              first | refine v_iaddN C dX6_whyNot_62 ?_ | refine v_iadd C dX6_whyNot_62 ?_
              refine v_iload C dX6_whyNot_63 rfl ?_
              first | refine v_iaddN C dX6_whyNot_65 ?_ | refine v_iadd C dX6_whyNot_65 ?_
              refine v_ialdQ (x := bI (lockB m (jw + i))) C ar_qS_1 (by decide) _ ((by rw [Nat.add_assoc]; exact (hR.l (by omega)).trans (LK_at hLK (by omega)))) ?_ rfl dX6_whyNot_66 ?_
              · omega
              refine v_iconst (v := nI 1) C dX6_whyNot_67 (by decide) ?_
              first | refine v_icmp_neN C 73 dX6_whyNot_68 (by decide) (by omega) (by omega) (fun c68 => ?_) (fun c68 => ?_) | refine v_icmp_ne C 73 dX6_whyNot_68 (by decide) (fun c68 => ?_) (fun c68 => ?_)
              · first | refine v_iinc1 C (lo2 := [some _, some _, some _, some _, some _]) dX6_whyNot_73 rfl rfl rfl ?_ | refine v_iinc C (lo2 := [some _, some _, some _, some _, some _]) dX6_whyNot_73 rfl rfl rfl rfl ?_
                refine v_goto C 48 dX6_whyNot_76 (by decide) ?_
                have hlf : lockB m (jw + i) = false := by
                  cases hq : lockB m (jw + i)
                  · rfl
                  · exact absurd (by rw [hq]; rfl) c68
                rw [hun (by omega), hlf, Bool.false_or] at i3
                exact ih48 (i + 1) (by show l - (i + 1) < l - i; omega) ⟨by omega, i3⟩
              · refine v_iconst (v := nI 3) C dX6_whyNot_71 (by decide) ?_
                refine v_iret C F (by first | rfl | exact bI_nar _) dX6_whyNot_72 (Nat.le_of_ble_eq_true rfl) (Nat.le_of_ble_eq_true rfl) ?_
                have hlt : lockB m (jw + i) = true := by
                  cases hq : lockB m (jw + i)
                  · rw [hq] at c68; exact absurd c68 (by decide)
                  · rfl
                rw [hun (by omega), hlt, Bool.true_or] at i3
                exact ⟨by rw [hif, ← i3]; rfl, rfl⟩
          exact L48 0 ⟨Nat.zero_le _, rfl⟩
        · skip
          refine v_iconst (v := nI 2) C dX6_whyNot_43 (by decide) ?_
          refine v_iret C F (by first | rfl | exact bI_nar _) dX6_whyNot_44 (Nat.le_of_ble_eq_true rfl) (Nat.le_of_ble_eq_true rfl) ?_
          refine ⟨?_, rfl⟩
          first
          | exact (why_big hn h96 (by omega) (by omega)).symm
          | (have z1 := c26
             rw [why_in hn h96 (by omega) (by omega)] at z1
             unfold refM
             rw [if_neg (by omega), z1]
             rfl)
          | (have z1 := c26
             have z2 := c40
             rw [why_in hn h96 (by omega) (by omega)] at z1 z2
             unfold refM
             rw [if_neg (by omega), z1, z2]
             rfl)
  · rw [e1] at c2
    refine v_iconst (v := nI 1) C dX6_whyNot_5 (by decide) ?_
    refine v_iret C F (by first | rfl | exact bI_nar _) dX6_whyNot_6 (Nat.le_of_ble_eq_true rfl) (Nat.le_of_ble_eq_true rfl) ?_
    exact ⟨by unfold refM; rw [if_pos (by omega)], rfl⟩
set_option maxHeartbeats 16000000 in
theorem c_X6_anyLocked {l : Launch} (hl : l.stackTraces = false) {κ : Kp} {h : Nat → Nat} {g : G} {m : Mg} {a b : Nat} (hR : RowR m (g 1)) (hLK : LK m) (hb : b < 96) (ha : a ≤ 192) : Ct SS MM l κ yX6_anyLocked cX6_anyLocked 4 (some FieldType.boolean) 0 0 0 [.ref (h 0), .int (nI a), .int (nI b)] (qS κ h) g ri (fun r u => r = bI (anyG (lockB m) a (b + 1 - a)) ∧ u = g) (fun _ _ => False) := by
  refine Ct.of (own := RX6) (by decide) rfl hl (by intro v hv; simp only [List.mem_cons, List.not_mem_nil, or_false] at hv; first | (rcases hv with rfl | rfl | rfl | rfl | rfl | rfl <;> rfl) | (rcases hv with rfl | rfl | rfl | rfl | rfl <;> rfl) | (rcases hv with rfl | rfl | rfl | rfl <;> rfl) | (rcases hv with rfl | rfl | rfl <;> rfl) | (rcases hv with rfl | rfl <;> rfl) | (subst hv; rfl) | exact hv.elim) (Nat.le_of_ble_eq_true rfl) (fun X hxl hxk C F N => ?_)
  subst hxl hxk
  show V X (qS (xK X) h) 0 [some (.ref (h 0)), some (.int (nI a)), some (.int (nI b)), none] [] g 0 0
  refine v_iload_n C dX6_anyLocked_0 rfl ?_
  refine v_istore_n C (lo2 := [some _, some _, some _, some _]) dX6_anyLocked_1 rfl (Nat.le_of_ble_eq_true rfl) rfl ?_
  have L2 : ∀ (t : Nat), (fun t => a ≤ t ∧ t ≤ 200 ∧ anyG (lockB m) t ((b + 1) - t) = anyG (lockB m) a ((b + 1) - a)) t → (fun t : Nat => V X (qS (xK X) h) 2 [some (.ref (h 0)), some (.int (nI a)), some (.int (nI b)), some (.int (nI t))] [] g 0 0) t := by
    refine v_ind (fun t : Nat => (b + 1) - t) ?_
    rintro i ih2 hI2
    try dsimp only at hI2 ⊢
    obtain ⟨i1, i2, i3⟩ := hI2
    refine v_iload_n C dX6_anyLocked_2 rfl ?_
    refine v_iload_n C dX6_anyLocked_3 rfl ?_
    first | refine v_icmp_gtN C 29 dX6_anyLocked_4 (by decide) (by omega) (by omega) (fun c4 => ?_) (fun c4 => ?_) | refine v_icmp_gt C 29 dX6_anyLocked_4 (by decide) (fun c4 => ?_) (fun c4 => ?_)
    · refine v_iconst (v := nI 0) C dX6_anyLocked_29 (by decide) ?_
      refine v_iret C F (by first | rfl | exact bI_nar _) dX6_anyLocked_30 (Nat.le_of_ble_eq_true rfl) (Nat.le_of_ble_eq_true rfl) ?_
      rw [anyG_0 (by omega)] at i3
      exact ⟨bI_f i3.symm, rfl⟩
    · refine v_aload_n C dX6_anyLocked_7 rfl ?_
      refine v_getr C fl_X6_7 or_qS_0_3 dX6_anyLocked_8 ?_
      refine v_sipush (v := nI 288) C dX6_anyLocked_11 (by decide) ?_
      refine v_iload_n C dX6_anyLocked_14 rfl ?_
      first | refine v_iaddN C dX6_anyLocked_15 ?_ | refine v_iadd C dX6_anyLocked_15 ?_
      refine v_ialdQ (x := bI (lockB m i)) C ar_qS_1 (by decide) _ ((hR.l (by omega)).trans (LK_at hLK (by omega))) ?_ rfl dX6_anyLocked_16 ?_
      · omega
      refine v_iconst (v := nI 1) C dX6_anyLocked_17 (by decide) ?_
      refine v_icmp_ne C 23 dX6_anyLocked_18 (by decide) (fun c18 => ?_) (fun c18 => ?_)
      · first | refine v_iinc1 C (lo2 := [some _, some _, some _, some _]) dX6_anyLocked_23 rfl rfl rfl ?_ | refine v_iinc C (lo2 := [some _, some _, some _, some _]) dX6_anyLocked_23 rfl rfl rfl rfl ?_
        refine v_goto C 2 dX6_anyLocked_26 (by decide) ?_
        have hib : i < (b + 1) := by omega
        have hf : (lockB m) i = false := by
          cases hq : lockB m i
          · rfl
          · exact absurd (by rw [hq]; rfl) c18
        rw [anyG_s hib, hf, Bool.false_or] at i3
        exact ih2 (i + 1) (by show (b + 1) - (i + 1) < (b + 1) - i; omega) ⟨by omega, by omega, i3⟩
      · refine v_iconst (v := nI 1) C dX6_anyLocked_21 (by decide) ?_
        refine v_iret C F (by first | rfl | exact bI_nar _) dX6_anyLocked_22 (Nat.le_of_ble_eq_true rfl) (Nat.le_of_ble_eq_true rfl) ?_
        have hib : i < (b + 1) := by omega
        have hf : (lockB m) i = true := by
          cases hq : lockB m i
          · rw [hq] at c18; exact absurd c18 (by decide)
          · rfl
        rw [anyG_s hib, hf, Bool.true_or] at i3
        exact ⟨bI_t i3.symm, rfl⟩
  exact L2 (a) ⟨Nat.le_refl _, by omega, rfl⟩
set_option maxHeartbeats 16000000 in
theorem c_X6_fills {l : Launch} (hl : l.stackTraces = false) {κ : Kp} {h : Nat → Nat} {g : G} {m : Mg} {n a b : Nat} {v : Int32} (hR : RowR m (g 1)) (hE : EvOK m) (hI : IM m n) (hs : g 0 2 = nI n) (hab : a ≤ b) (hb : b < n) : Ct SS MM l κ yX6_fills cX6_fills 6 (some FieldType.int) 5 0 0 [.ref (h 0), .int (nI a), .int (nI b), .int v] (qS κ h) g ri (fun r u => r = nI (fillM n a b v m).1 ∧ ∃ f, u = sG g 1 f ∧ RowR (fillM n a b v m).2 f) (fun _ _ => False) := by
  refine Ct.of (own := RX6) (by decide) rfl hl (by intro v hv; simp only [List.mem_cons, List.not_mem_nil, or_false] at hv; first | (rcases hv with rfl | rfl | rfl | rfl | rfl | rfl <;> rfl) | (rcases hv with rfl | rfl | rfl | rfl | rfl <;> rfl) | (rcases hv with rfl | rfl | rfl | rfl <;> rfl) | (rcases hv with rfl | rfl | rfl <;> rfl) | (rcases hv with rfl | rfl <;> rfl) | (subst hv; rfl) | exact hv.elim) (Nat.le_of_ble_eq_true rfl) (fun X hxl hxk C F N => ?_)
  subst hxl hxk
  show V X (qS (xK X) h) 0 [some (.ref (h 0)), some (.int (nI a)), some (.int (nI b)), some (.int v), none, none] [] g 0 0
  have h96 := hI.2.1
  have hd := depM_ok (T := rowT a b) hI
  have hyI0 := hd.1.im hI
  have hyE0 := hd.1.1.2.2.2.2 hE
  have hfin : forG (fun p y => byteM (dropO y p) p v) a (b + 1 - a) (depM (rowT a b) n m).2 = (fillM n a b v m).2 := by
    rw [fill_split, ← drp_row (by omega) hb]
    rfl
  refine v_aload_n C dX6_fills_0 rfl ?_
  refine v_iload_n C dX6_fills_1 rfl ?_
  refine v_iload_n C dX6_fills_2 rfl ?_
  refine v_callVi C (c_X6_paysOwing hl hR hE hI hs (by omega) (by omega)) ym_X6_paysOwing ml_X6_285 emb_id_qS rfl rfl rfl rfl rfl dX6_fills_3 (Nat.le_of_ble_eq_true rfl) (Nat.le_of_ble_eq_true rfl) (Nat.le_of_ble_eq_true rfl) (Nat.le_of_ble_eq_true rfl) (fun _ _ hu => hu.elim) (fun r u hu => ?_)
  obtain ⟨rfl, f2, hu, hR2⟩ := hu
  subst u
  refine V.stt (g2 := (sG g 1 f2)) (rfl) ?_
  refine v_istore C (lo2 := [some _, some _, some _, some _, some _, none]) dX6_fills_6 rfl (Nat.le_of_ble_eq_true rfl) rfl ?_
  refine v_iload_n C dX6_fills_8 rfl ?_
  refine v_istore C (lo2 := [some _, some _, some _, some _, some _, some _]) dX6_fills_9 rfl (Nat.le_of_ble_eq_true rfl) rfl ?_
  have L11 : ∀ (t : Nat × Mg × (Nat → Int32)), (fun t => a ≤ t.1 ∧ t.1 ≤ b + 1 ∧ EvOK t.2.1 ∧ RowR t.2.1 t.2.2 ∧ forG (fun p y => byteM (dropO y p) p v) t.1 (b + 1 - t.1) t.2.1 = (fillM n a b v m).2) t → (fun t : Nat × Mg × (Nat → Int32) => V X (qS (xK X) h) 11 [some (.ref (h 0)), some (.int (nI a)), some (.int (nI b)), some (.int v), some (.int (nI (depM (rowT a b) n m).1)), some (.int (nI t.1))] [] (sG g 1 t.2.2) 0 0) t := by
    refine v_ind (fun t : Nat × Mg × (Nat → Int32) => b + 1 - t.1) ?_
    rintro ⟨i, y, f⟩ ih11 hI11
    try dsimp only at hI11 ⊢
    obtain ⟨i1, i2, hyE, hRy, i4⟩ := hI11
    have hyE : EvOK y := hyE
    have hRy : RowR y f := hRy
    refine v_iload C dX6_fills_11 rfl ?_
    refine v_iload_n C dX6_fills_13 rfl ?_
    first | refine v_icmp_gtN C 39 dX6_fills_14 (by decide) (by omega) (by omega) (fun c14 => ?_) (fun c14 => ?_) | refine v_icmp_gt C 39 dX6_fills_14 (by decide) (fun c14 => ?_) (fun c14 => ?_)
    · refine v_iload C dX6_fills_39 rfl ?_
      refine v_iret C F (by first | rfl | exact bI_nar _) dX6_fills_41 (Nat.le_of_ble_eq_true rfl) (Nat.le_of_ble_eq_true rfl) ?_
      rw [forG_0 (by omega)] at i4
      exact ⟨rfl, f, rfl, by rw [← i4]; exact hRy⟩
    · refine v_aload_n C dX6_fills_17 rfl ?_
      refine v_iload C dX6_fills_18 rfl ?_
      refine v_callVv C (c_X6_drops hl (g := sG g 1 f) (m := y) hRy hyE (by omega)) ym_X6_drops ml_X6_288 emb_id_qS rfl rfl rfl rfl rfl dX6_fills_20 (Nat.le_of_ble_eq_true rfl) (Nat.le_of_ble_eq_true rfl) (Nat.le_of_ble_eq_true rfl) (Nat.le_of_ble_eq_true rfl) (fun _ _ hu => hu.elim) (fun r u hu => ?_)
      obtain ⟨f3, hu, hR3⟩ := hu
      subst u
      refine V.stt (g2 := (sG g 1 f3)) (sG_sG) ?_
      refine v_aload_n C dX6_fills_23 rfl ?_
      refine v_getr C fl_X6_7 or_qS_0_3 dX6_fills_24 ?_
      refine v_iconst (v := nI 0) C dX6_fills_27 (by decide) ?_
      refine v_iload C dX6_fills_28 rfl ?_
      first | refine v_iaddN C dX6_fills_30 ?_ | refine v_iadd C dX6_fills_30 ?_
      refine v_iload_n C dX6_fills_31 rfl ?_
      refine v_iast C ar_qS_1 (by decide) _ ?_ rfl dX6_fills_32 ?_
      · omega
      refine V.stt (g2 := (sG g 1 (upd f3 i v))) (by rw [Nat.zero_add]; exact sG_sG) ?_
      first | refine v_iinc1 C (lo2 := [some _, some _, some _, some _, some _, some _]) dX6_fills_33 rfl rfl rfl ?_ | refine v_iinc C (lo2 := [some _, some _, some _, some _, some _, some _]) dX6_fills_33 rfl rfl rfl rfl ?_
      refine v_goto C 11 dX6_fills_36 (by decide) ?_
      have hib : i < b + 1 := by omega
      rw [forG_s hib] at i4
      exact ih11 (i + 1, byteM (dropO y i) i v, upd f3 i v) (by show b + 1 - (i + 1) < b + 1 - i; omega) ⟨by show a ≤ i + 1; omega, by show i + 1 ≤ b + 1; omega, EvOK.of (m := dropO y i) ((dropO_Dr (n := n)).1.2.2.2.2 hyE) rfl, Row_byte hR3 (by omega), i4⟩
  exact L11 (a, (depM (rowT a b) n m).2, f2) ⟨Nat.le_refl _, by show a ≤ b + 1; omega, hyE0, hR2, hfin⟩
theorem nI_max {a b : Nat} (ha : a < 2 ^ 31) (hb : b < 2 ^ 31) : (if nI a < nI b then nI b else nI a) = nI (max a b) := by
  by_cases h : nI a < nI b
  · rw [if_pos h]
    have := Int32.lt_iff_toInt_lt.mp h
    rw [nI_toInt ha, nI_toInt hb] at this
    exact congrArg nI (by omega)
  · rw [if_neg h]
    have h2 : ¬ a < b := fun z => h (Int32.lt_iff_toInt_lt.mpr (by rw [nI_toInt ha, nI_toInt hb]; omega))
    exact congrArg nI (by omega)
set_option maxHeartbeats 16000000 in
theorem c_X6_firstLeft {l : Launch} (hl : l.stackTraces = false) {κ : Kp} {f t k : Nat} (hf : f ≤ 96) (ht : t ≤ 96) (hk : k ≤ 96) : Ct SS MM l κ yX6_firstLeft cX6_firstLeft 3 (some FieldType.int) 0 0 0 [.int (nI f), .int (nI t), .int (nI k)] nS () ri (fun r _ => r = nI (if t ≤ f then max f (t + k) else f)) (fun _ _ => False) := by
  refine Ct.of (own := RX6) (by decide) rfl hl (by intro v hv; simp only [List.mem_cons, List.not_mem_nil, or_false] at hv; first | (rcases hv with rfl | rfl | rfl | rfl | rfl | rfl <;> rfl) | (rcases hv with rfl | rfl | rfl | rfl | rfl <;> rfl) | (rcases hv with rfl | rfl | rfl | rfl <;> rfl) | (rcases hv with rfl | rfl | rfl <;> rfl) | (rcases hv with rfl | rfl <;> rfl) | (subst hv; rfl) | exact hv.elim) (Nat.le_of_ble_eq_true rfl) (fun X hxl hxk C F N => ?_)
  subst hxl hxk
  show V X nS 0 [some (.int (nI f)), some (.int (nI t)), some (.int (nI k))] [] () 0 0
  refine v_iload_n C dX6_firstLeft_0 rfl ?_
  refine v_iload_n C dX6_firstLeft_1 rfl ?_
  first | refine v_icmp_gtN C 15 dX6_firstLeft_2 (by decide) (by omega) (by omega) (fun c2 => ?_) (fun c2 => ?_) | refine v_icmp_gt C 15 dX6_firstLeft_2 (by decide) (fun c2 => ?_) (fun c2 => ?_)
  · refine v_iload_n C dX6_firstLeft_15 rfl ?_
    refine v_iret C F (by first | rfl | exact bI_nar _) dX6_firstLeft_16 (Nat.le_of_ble_eq_true rfl) (Nat.le_of_ble_eq_true rfl) ?_
    first
    | rw [if_pos (by omega)]
    | rw [if_neg (by omega)]
  · refine v_iload_n C dX6_firstLeft_5 rfl ?_
    refine v_iload_n C dX6_firstLeft_6 rfl ?_
    refine v_iload_n C dX6_firstLeft_7 rfl ?_
    first | refine v_iaddN C dX6_firstLeft_8 ?_ | refine v_iadd C dX6_firstLeft_8 ?_
    refine v_mmax (z := nI (max f (t + k))) C ml_X6_263 w_maxS w_mI w_maxC rfl (Nat.le_of_ble_eq_true rfl) dX6_firstLeft_9 (Nat.le_of_ble_eq_true rfl) (Nat.le_of_ble_eq_true rfl) ?_ ?_
    · exact nI_max (by omega) (by omega)
    refine v_goto C 16 dX6_firstLeft_12 (by decide) ?_
    refine v_iret C F (by first | rfl | exact bI_nar _) dX6_firstLeft_16 (Nat.le_of_ble_eq_true rfl) (Nat.le_of_ble_eq_true rfl) ?_
    first
    | rw [if_pos (by omega)]
    | rw [if_neg (by omega)]
set_option maxHeartbeats 16000000 in
theorem c_X6_lastLeft {l : Launch} (hl : l.stackTraces = false) {κ : Kp} {f t k : Nat} (hf : f ≤ 96) (ht : t ≤ 96) (hk : k ≤ 96) (hk1 : 1 ≤ k) : Ct SS MM l κ yX6_lastLeft cX6_lastLeft 3 (some FieldType.int) 0 0 0 [.int (nI f), .int (nI t), .int (nI k)] nS () ri (fun r _ => r = nI (lefZ f t k)) (fun _ _ => False) := by
  refine Ct.of (own := RX6) (by decide) rfl hl (by intro v hv; simp only [List.mem_cons, List.not_mem_nil, or_false] at hv; first | (rcases hv with rfl | rfl | rfl | rfl | rfl | rfl <;> rfl) | (rcases hv with rfl | rfl | rfl | rfl | rfl <;> rfl) | (rcases hv with rfl | rfl | rfl | rfl <;> rfl) | (rcases hv with rfl | rfl | rfl <;> rfl) | (rcases hv with rfl | rfl <;> rfl) | (subst hv; rfl) | exact hv.elim) (Nat.le_of_ble_eq_true rfl) (fun X hxl hxk C F N => ?_)
  subst hxl hxk
  show V X nS 0 [some (.int (nI f)), some (.int (nI t)), some (.int (nI k))] [] () 0 0
  refine v_iload_n C dX6_lastLeft_0 rfl ?_
  refine v_iload_n C dX6_lastLeft_1 rfl ?_
  first | refine v_icmp_leN C 17 dX6_lastLeft_2 (by decide) (by omega) (by omega) (fun c2 => ?_) (fun c2 => ?_) | refine v_icmp_le C 17 dX6_lastLeft_2 (by decide) (fun c2 => ?_) (fun c2 => ?_)
  · refine v_iload_n C dX6_lastLeft_17 rfl ?_
    refine v_iload_n C dX6_lastLeft_18 rfl ?_
    first | refine v_iaddN C dX6_lastLeft_19 ?_ | refine v_iadd C dX6_lastLeft_19 ?_
    refine v_iconst (v := nI 1) C dX6_lastLeft_20 (by decide) ?_
    first | refine v_isubN C dX6_lastLeft_21 (by omega) ?_ | refine v_isub C dX6_lastLeft_21 ?_
    refine v_iret C F (by first | rfl | exact bI_nar _) dX6_lastLeft_22 (Nat.le_of_ble_eq_true rfl) (Nat.le_of_ble_eq_true rfl) ?_
    unfold lefZ
    first
    | rw [if_pos (by omega)]
    | rw [if_neg (by omega)]
  · refine v_iload_n C dX6_lastLeft_5 rfl ?_
    refine v_iload_n C dX6_lastLeft_6 rfl ?_
    first | refine v_iaddN C dX6_lastLeft_7 ?_ | refine v_iadd C dX6_lastLeft_7 ?_
    refine v_iload_n C dX6_lastLeft_8 rfl ?_
    refine v_mmin (z := nI (min (f + k) t)) C ml_X6_294 w_minS w_mI w_minC rfl (Nat.le_of_ble_eq_true rfl) dX6_lastLeft_9 (Nat.le_of_ble_eq_true rfl) (Nat.le_of_ble_eq_true rfl) ?_ ?_
    · rw [nI_min (by omega) (by omega)]
    refine v_iconst (v := nI 1) C dX6_lastLeft_12 (by decide) ?_
    first | refine v_isubN C dX6_lastLeft_13 (by omega) ?_ | refine v_isub C dX6_lastLeft_13 ?_
    refine v_goto C 22 dX6_lastLeft_14 (by decide) ?_
    refine v_iret C F (by first | rfl | exact bI_nar _) dX6_lastLeft_22 (Nat.le_of_ble_eq_true rfl) (Nat.le_of_ble_eq_true rfl) ?_
    unfold lefZ
    first
    | rw [if_pos (by omega)]
    | rw [if_neg (by omega)]
set_option maxHeartbeats 16000000 in
theorem c_X6_swaps {l : Launch} (hl : l.stackTraces = false) {κ : Kp} {h : Nat → Nat} {g : G} {m : Mg} {n a b : Nat} (hR : RowR m (g 1)) (hE : EvOK m) (hI : IM m n) (hs : g 0 2 = nI n) (ha : a < n) (hb : b < n) (hne : ¬ a = b) : Ct SS MM l κ yX6_swaps cX6_swaps 7 (some FieldType.int) 4 0 0 [.ref (h 0), .int (nI a), .int (nI b)] (qS κ h) g ri (fun r u => r = nI (swapM n a b m).1 ∧ ∃ f, u = sG g 1 f ∧ RowR (swapM n a b m).2 f) (fun _ _ => False) := by
  refine Ct.of (own := RX6) (by decide) rfl hl (by intro v hv; simp only [List.mem_cons, List.not_mem_nil, or_false] at hv; first | (rcases hv with rfl | rfl | rfl | rfl | rfl | rfl <;> rfl) | (rcases hv with rfl | rfl | rfl | rfl | rfl <;> rfl) | (rcases hv with rfl | rfl | rfl | rfl <;> rfl) | (rcases hv with rfl | rfl | rfl <;> rfl) | (rcases hv with rfl | rfl <;> rfl) | (subst hv; rfl) | exact hv.elim) (Nat.le_of_ble_eq_true rfl) (fun X hxl hxk C F N => ?_)
  subst hxl hxk
  show V X (qS (xK X) h) 0 [some (.ref (h 0)), some (.int (nI a)), some (.int (nI b)), none, none, none, none] [] g 0 0
  have h96 := hI.2.1
  refine v_aload_n C dX6_swaps_0 rfl ?_
  refine v_iload_n C dX6_swaps_1 rfl ?_
  refine v_callVi C (c_X6_valueOf hl hR hI ha) ym_X6_valueOf ml_X6_226 emb_id_qS rfl rfl rfl rfl rfl dX6_swaps_2 (Nat.le_of_ble_eq_true rfl) (Nat.le_of_ble_eq_true rfl) (Nat.le_of_ble_eq_true rfl) (Nat.le_of_ble_eq_true rfl) (fun _ _ hu => hu.elim) (fun r u hu => ?_)
  obtain ⟨rfl, hu⟩ := hu
  subst u
  refine v_istore_n C (lo2 := [some _, some _, some _, some _, none, none, none]) dX6_swaps_5 rfl (Nat.le_of_ble_eq_true rfl) rfl ?_
  refine v_aload_n C dX6_swaps_6 rfl ?_
  refine v_iload_n C dX6_swaps_7 rfl ?_
  refine v_callVi C (c_X6_valueOf hl hR hI hb) ym_X6_valueOf ml_X6_226 emb_id_qS rfl rfl rfl rfl rfl dX6_swaps_8 (Nat.le_of_ble_eq_true rfl) (Nat.le_of_ble_eq_true rfl) (Nat.le_of_ble_eq_true rfl) (Nat.le_of_ble_eq_true rfl) (fun _ _ hu => hu.elim) (fun r u hu => ?_)
  obtain ⟨rfl, hu⟩ := hu
  subst u
  refine v_istore C (lo2 := [some _, some _, some _, some _, some _, none, none]) dX6_swaps_11 rfl (Nat.le_of_ble_eq_true rfl) rfl ?_
  refine v_iconst (v := nI 0) C dX6_swaps_13 (by decide) ?_
  refine v_istore C (lo2 := [some _, some _, some _, some _, some _, some _, none]) dX6_swaps_14 rfl (Nat.le_of_ble_eq_true rfl) rfl ?_
  refine v_iconst (v := nI 0) C dX6_swaps_16 (by decide) ?_
  refine v_istore C (lo2 := [some _, some _, some _, some _, some _, some _, some _]) dX6_swaps_17 rfl (Nat.le_of_ble_eq_true rfl) rfl ?_
  have L19 : ∀ (t : Nat × (Nat × Mg) × (Nat → Int32)), (fun t => forG (depS (two a b)) t.1 (n - t.1) t.2.1 = depM (two a b) n m ∧ Pd n m t.2.1.2 ∧ RowR t.2.1.2 t.2.2 ∧ t.2.1.1 ≤ t.1 ∧ t.1 ≤ n) t → (fun t : Nat × (Nat × Mg) × (Nat → Int32) => V X (qS (xK X) h) 19 [some (.ref (h 0)), some (.int (nI a)), some (.int (nI b)), some (.int (valM m a)), some (.int (valM m b)), some (.int (nI t.2.1.1)), some (.int (nI t.1))] [] (sG g 1 t.2.2) 0 0) t := by
    refine v_ind (fun t : Nat × (Nat × Mg) × (Nat → Int32) => n - t.1) ?_
    rintro ⟨i, ⟨c, y⟩, f⟩ ih19 hI19
    try dsimp only at hI19 ⊢
    obtain ⟨i1, i2, hRy, i3, i4⟩ := hI19
    have hyI : IM y n := i2.im hI
    have hyE : EvOK y := i2.1.2.2.2.2 hE
    have hRy : RowR y f := hRy
    have i3 : c ≤ i := i3
    refine v_iload C dX6_swaps_19 rfl ?_
    refine v_aload_n C dX6_swaps_21 rfl ?_
    refine v_getiQ (x := nI n) C fl_X6_126 oi_qS_0_2 (hs) dX6_swaps_22 ?_
    first | refine v_icmp_geN C 93 dX6_swaps_25 (by decide) (by omega) (by omega) (fun c25 => ?_) (fun c25 => ?_) | refine v_icmp_ge C 93 dX6_swaps_25 (by decide) (fun c25 => ?_) (fun c25 => ?_)
    · refine v_aload_n C dX6_swaps_93 rfl ?_
      refine v_iload_n C dX6_swaps_94 rfl ?_
      refine v_iload_n C dX6_swaps_95 rfl ?_
      refine v_mmin (z := nI (min a b)) C ml_X6_294 w_minS w_mI w_minC rfl (Nat.le_of_ble_eq_true rfl) dX6_swaps_96 (Nat.le_of_ble_eq_true rfl) (Nat.le_of_ble_eq_true rfl) ?_ ?_
      · rw [nI_min (by omega) (by omega)]
      refine v_callVv C (c_X6_drops hl (g := sG g 1 f) (m := y) hRy hyE (by omega)) ym_X6_drops ml_X6_288 emb_id_qS rfl rfl rfl rfl rfl dX6_swaps_99 (Nat.le_of_ble_eq_true rfl) (Nat.le_of_ble_eq_true rfl) (Nat.le_of_ble_eq_true rfl) (Nat.le_of_ble_eq_true rfl) (fun _ _ hu => hu.elim) (fun r u hu => ?_)
      obtain ⟨f4, hu, hR4⟩ := hu
      subst u
      refine V.stt (g2 := (sG g 1 f4)) (sG_sG) ?_
      refine v_aload_n C dX6_swaps_102 rfl ?_
      refine v_iload_n C dX6_swaps_103 rfl ?_
      refine v_iload_n C dX6_swaps_104 rfl ?_
      refine v_mmax (z := nI (max a b)) C ml_X6_263 w_maxS w_mI w_maxC rfl (Nat.le_of_ble_eq_true rfl) dX6_swaps_105 (Nat.le_of_ble_eq_true rfl) (Nat.le_of_ble_eq_true rfl) ?_ ?_
      · exact nI_max (by omega) (by omega)
      refine v_callVv C (c_X6_drops hl (g := sG g 1 f4) hR4 ((dropO_Dr (n := n)).1.2.2.2.2 hyE) (by omega)) ym_X6_drops ml_X6_288 emb_id_qS rfl rfl rfl rfl rfl dX6_swaps_108 (Nat.le_of_ble_eq_true rfl) (Nat.le_of_ble_eq_true rfl) (Nat.le_of_ble_eq_true rfl) (Nat.le_of_ble_eq_true rfl) (fun _ _ hu => hu.elim) (fun r u hu => ?_)
      obtain ⟨f5, hu, hR5⟩ := hu
      subst u
      refine V.stt (g2 := (sG g 1 f5)) (sG_sG) ?_
      refine v_aload_n C dX6_swaps_111 rfl ?_
      refine v_getr C fl_X6_7 or_qS_0_3 dX6_swaps_112 ?_
      refine v_iconst (v := nI 0) C dX6_swaps_115 (by decide) ?_
      refine v_iload_n C dX6_swaps_116 rfl ?_
      first | refine v_iaddN C dX6_swaps_117 ?_ | refine v_iadd C dX6_swaps_117 ?_
      refine v_iload C dX6_swaps_118 rfl ?_
      refine v_iast C ar_qS_1 (by decide) _ ?_ rfl dX6_swaps_120 ?_
      · omega
      refine V.stt (g2 := (sG g 1 (upd f5 a (valM m b)))) (by rw [Nat.zero_add]; exact sG_sG) ?_
      refine v_aload_n C dX6_swaps_121 rfl ?_
      refine v_getr C fl_X6_7 or_qS_0_3 dX6_swaps_122 ?_
      refine v_iconst (v := nI 0) C dX6_swaps_125 (by decide) ?_
      refine v_iload_n C dX6_swaps_126 rfl ?_
      first | refine v_iaddN C dX6_swaps_127 ?_ | refine v_iadd C dX6_swaps_127 ?_
      refine v_iload_n C dX6_swaps_128 rfl ?_
      refine v_iast C ar_qS_1 (by decide) _ ?_ rfl dX6_swaps_129 ?_
      · omega
      refine V.stt (g2 := (sG g 1 (upd (upd f5 a (valM m b)) b (valM m a)))) (by rw [Nat.zero_add]; exact sG_sG) ?_
      refine v_iload C dX6_swaps_130 rfl ?_
      refine v_iret C F (by first | rfl | exact bI_nar _) dX6_swaps_132 (Nat.le_of_ble_eq_true rfl) (Nat.le_of_ble_eq_true rfl) ?_
      rw [forG_0 (by omega)] at i1
      have e1 : (depM (two a b) n m).1 = c := by rw [← i1]
      have e2 : (depM (two a b) n m).2 = y := by rw [← i1]
      refine ⟨by unfold swapM; rw [e1], _, rfl, ?_⟩
      unfold swapM
      rw [e2, drp_two hne ha hb]
      exact Row_byte (Row_byte hR5 (by omega)) (by omega)
    · refine v_iload C dX6_swaps_28 rfl ?_
      refine v_iload_n C dX6_swaps_30 rfl ?_
      first | refine v_icmp_eqN C 87 dX6_swaps_31 (by decide) (by omega) (by omega) (fun c31 => ?_) (fun c31 => ?_) | refine v_icmp_eq C 87 dX6_swaps_31 (by decide) (fun c31 => ?_) (fun c31 => ?_)
      · first | refine v_iinc1 C (lo2 := [some _, some _, some _, some _, some _, some _, some _]) dX6_swaps_87 rfl rfl rfl ?_ | refine v_iinc C (lo2 := [some _, some _, some _, some _, some _, some _, some _]) dX6_swaps_87 rfl rfl rfl rfl ?_
        refine v_goto C 19 dX6_swaps_90 (by decide) ?_
        have hib : i < n := by omega
        rw [forG_s hib] at i1
        have hmu : n - (i + 1) < n - i := by omega
        first
        | (have hz : depS (two a b) i (c, y) = (c + 1, payM 2 y i) := if_pos (by show (!(two a b) i && (owb y i && (two a b) (src y i))) = true; unfold two; rw [decide_eq_false (show ¬ (i = a ∨ i = b) by omega), c46, decide_eq_true (show src y i = a ∨ src y i = b by omega)]; rfl)
           rw [hz] at i1
           exact ih19 (i + 1, (c + 1, payM 2 y i), f3) hmu ⟨i1, (show Pd n m (payM 2 y i) from i2.trans hI (payM_Pd hib)), hR3, by show c + 1 ≤ i + 1; omega, by show i + 1 ≤ n; omega⟩)
        | (have hz : depS (two a b) i (c, y) = (c, y) := if_neg (by show ¬ (!(two a b) i && (owb y i && (two a b) (src y i))) = true; unfold two; first | (rw [decide_eq_true (show i = a ∨ i = b by omega)]; exact Bool.false_ne_true) | (rw [c46, Bool.false_and, Bool.and_false]; exact Bool.false_ne_true) | (rw [decide_eq_false (show ¬ (src y i = a ∨ src y i = b) by omega), Bool.and_false, Bool.and_false]; exact Bool.false_ne_true))
           rw [hz] at i1
           exact ih19 (i + 1, (c, y), f) hmu ⟨i1, i2, hRy, by show c ≤ i + 1; omega, by show i + 1 ≤ n; omega⟩)
      · refine v_iload C dX6_swaps_34 rfl ?_
        refine v_iload_n C dX6_swaps_36 rfl ?_
        first | refine v_icmp_eqN C 87 dX6_swaps_37 (by decide) (by omega) (by omega) (fun c37 => ?_) (fun c37 => ?_) | refine v_icmp_eq C 87 dX6_swaps_37 (by decide) (fun c37 => ?_) (fun c37 => ?_)
        · first | refine v_iinc1 C (lo2 := [some _, some _, some _, some _, some _, some _, some _]) dX6_swaps_87 rfl rfl rfl ?_ | refine v_iinc C (lo2 := [some _, some _, some _, some _, some _, some _, some _]) dX6_swaps_87 rfl rfl rfl rfl ?_
          refine v_goto C 19 dX6_swaps_90 (by decide) ?_
          have hib : i < n := by omega
          rw [forG_s hib] at i1
          have hmu : n - (i + 1) < n - i := by omega
          first
          | (have hz : depS (two a b) i (c, y) = (c + 1, payM 2 y i) := if_pos (by show (!(two a b) i && (owb y i && (two a b) (src y i))) = true; unfold two; rw [decide_eq_false (show ¬ (i = a ∨ i = b) by omega), c46, decide_eq_true (show src y i = a ∨ src y i = b by omega)]; rfl)
             rw [hz] at i1
             exact ih19 (i + 1, (c + 1, payM 2 y i), f3) hmu ⟨i1, (show Pd n m (payM 2 y i) from i2.trans hI (payM_Pd hib)), hR3, by show c + 1 ≤ i + 1; omega, by show i + 1 ≤ n; omega⟩)
          | (have hz : depS (two a b) i (c, y) = (c, y) := if_neg (by show ¬ (!(two a b) i && (owb y i && (two a b) (src y i))) = true; unfold two; first | (rw [decide_eq_true (show i = a ∨ i = b by omega)]; exact Bool.false_ne_true) | (rw [c46, Bool.false_and, Bool.and_false]; exact Bool.false_ne_true) | (rw [decide_eq_false (show ¬ (src y i = a ∨ src y i = b) by omega), Bool.and_false, Bool.and_false]; exact Bool.false_ne_true))
             rw [hz] at i1
             exact ih19 (i + 1, (c, y), f) hmu ⟨i1, i2, hRy, by show c ≤ i + 1; omega, by show i + 1 ≤ n; omega⟩)
        · refine v_aload_n C dX6_swaps_40 rfl ?_
          refine v_iload C dX6_swaps_41 rfl ?_
          refine v_callVi C (c_X6_owes hl (g := sG g 1 f) hRy (by omega)) ym_X6_owes ml_X6_217 emb_id_qS rfl rfl rfl rfl rfl dX6_swaps_43 (Nat.le_of_ble_eq_true rfl) (Nat.le_of_ble_eq_true rfl) (Nat.le_of_ble_eq_true rfl) (Nat.le_of_ble_eq_true rfl) (fun _ _ hu => hu.elim) (fun r u hu => ?_)
          obtain ⟨rfl, hu⟩ := hu
          subst u
          refine v_if_eqB C 87 dX6_swaps_46 (by decide) (fun c46 => ?_) (fun c46 => ?_)
          · first | refine v_iinc1 C (lo2 := [some _, some _, some _, some _, some _, some _, some _]) dX6_swaps_87 rfl rfl rfl ?_ | refine v_iinc C (lo2 := [some _, some _, some _, some _, some _, some _, some _]) dX6_swaps_87 rfl rfl rfl rfl ?_
            refine v_goto C 19 dX6_swaps_90 (by decide) ?_
            have hib : i < n := by omega
            rw [forG_s hib] at i1
            have hmu : n - (i + 1) < n - i := by omega
            first
            | (have hz : depS (two a b) i (c, y) = (c + 1, payM 2 y i) := if_pos (by show (!(two a b) i && (owb y i && (two a b) (src y i))) = true; unfold two; rw [decide_eq_false (show ¬ (i = a ∨ i = b) by omega), c46, decide_eq_true (show src y i = a ∨ src y i = b by omega)]; rfl)
               rw [hz] at i1
               exact ih19 (i + 1, (c + 1, payM 2 y i), f3) hmu ⟨i1, (show Pd n m (payM 2 y i) from i2.trans hI (payM_Pd hib)), hR3, by show c + 1 ≤ i + 1; omega, by show i + 1 ≤ n; omega⟩)
            | (have hz : depS (two a b) i (c, y) = (c, y) := if_neg (by show ¬ (!(two a b) i && (owb y i && (two a b) (src y i))) = true; unfold two; first | (rw [decide_eq_true (show i = a ∨ i = b by omega)]; exact Bool.false_ne_true) | (rw [c46, Bool.false_and, Bool.and_false]; exact Bool.false_ne_true) | (rw [decide_eq_false (show ¬ (src y i = a ∨ src y i = b) by omega), Bool.and_false, Bool.and_false]; exact Bool.false_ne_true))
               rw [hz] at i1
               exact ih19 (i + 1, (c, y), f) hmu ⟨i1, i2, hRy, by show c ≤ i + 1; omega, by show i + 1 ≤ n; omega⟩)
          · have hs2 := IM_src hyI (show i < n by omega) (owb_t.mp c46)
            refine v_aload_n C dX6_swaps_49 rfl ?_
            refine v_getr C fl_X6_7 or_qS_0_3 dX6_swaps_50 ?_
            refine v_bipush (v := nI 96) C dX6_swaps_53 (by decide) ?_
            refine v_iload C dX6_swaps_55 rfl ?_
            first | refine v_iaddN C dX6_swaps_57 ?_ | refine v_iadd C dX6_swaps_57 ?_
            refine v_ialdQ (x := nI (src y i)) C ar_qS_1 (by decide) _ ((hRy.s (by omega)).trans hs2.2) ?_ rfl dX6_swaps_58 ?_
            · omega
            refine v_iload_n C dX6_swaps_59 rfl ?_
            first | refine v_icmp_eqN C 77 dX6_swaps_60 (by decide) (by omega) (by omega) (fun c60 => ?_) (fun c60 => ?_) | refine v_icmp_eq C 77 dX6_swaps_60 (by decide) (fun c60 => ?_) (fun c60 => ?_)
            · refine v_aload_n C dX6_swaps_77 rfl ?_
              refine v_iload C dX6_swaps_78 rfl ?_
              refine v_iconst (v := nI 2) C dX6_swaps_80 (by decide) ?_
              refine v_callVv C (c_X6_pays hl (g := sG g 1 f) (m := y) (n := n) (k := 2) hRy hyE hyI (by decide) (by omega)) ym_X6_pays ml_X6_282 emb_id_qS rfl rfl rfl rfl rfl dX6_swaps_81 (Nat.le_of_ble_eq_true rfl) (Nat.le_of_ble_eq_true rfl) (Nat.le_of_ble_eq_true rfl) (Nat.le_of_ble_eq_true rfl) (fun _ _ hu => hu.elim) (fun r u hu => ?_)
              obtain ⟨f3, hu, hR3⟩ := hu
              subst u
              refine V.stt (g2 := (sG g 1 f3)) (sG_sG) ?_
              first | refine v_iinc1 C (lo2 := [some _, some _, some _, some _, some _, some _, some _]) dX6_swaps_84 rfl rfl rfl ?_ | refine v_iinc C (lo2 := [some _, some _, some _, some _, some _, some _, some _]) dX6_swaps_84 rfl rfl rfl rfl ?_
              first | refine v_iinc1 C (lo2 := [some _, some _, some _, some _, some _, some _, some _]) dX6_swaps_87 rfl rfl rfl ?_ | refine v_iinc C (lo2 := [some _, some _, some _, some _, some _, some _, some _]) dX6_swaps_87 rfl rfl rfl rfl ?_
              refine v_goto C 19 dX6_swaps_90 (by decide) ?_
              have hib : i < n := by omega
              rw [forG_s hib] at i1
              have hmu : n - (i + 1) < n - i := by omega
              first
              | (have hz : depS (two a b) i (c, y) = (c + 1, payM 2 y i) := if_pos (by show (!(two a b) i && (owb y i && (two a b) (src y i))) = true; unfold two; rw [decide_eq_false (show ¬ (i = a ∨ i = b) by omega), c46, decide_eq_true (show src y i = a ∨ src y i = b by omega)]; rfl)
                 rw [hz] at i1
                 exact ih19 (i + 1, (c + 1, payM 2 y i), f3) hmu ⟨i1, (show Pd n m (payM 2 y i) from i2.trans hI (payM_Pd hib)), hR3, by show c + 1 ≤ i + 1; omega, by show i + 1 ≤ n; omega⟩)
              | (have hz : depS (two a b) i (c, y) = (c, y) := if_neg (by show ¬ (!(two a b) i && (owb y i && (two a b) (src y i))) = true; unfold two; first | (rw [decide_eq_true (show i = a ∨ i = b by omega)]; exact Bool.false_ne_true) | (rw [c46, Bool.false_and, Bool.and_false]; exact Bool.false_ne_true) | (rw [decide_eq_false (show ¬ (src y i = a ∨ src y i = b) by omega), Bool.and_false, Bool.and_false]; exact Bool.false_ne_true))
                 rw [hz] at i1
                 exact ih19 (i + 1, (c, y), f) hmu ⟨i1, i2, hRy, by show c ≤ i + 1; omega, by show i + 1 ≤ n; omega⟩)
            · refine v_aload_n C dX6_swaps_63 rfl ?_
              refine v_getr C fl_X6_7 or_qS_0_3 dX6_swaps_64 ?_
              refine v_bipush (v := nI 96) C dX6_swaps_67 (by decide) ?_
              refine v_iload C dX6_swaps_69 rfl ?_
              first | refine v_iaddN C dX6_swaps_71 ?_ | refine v_iadd C dX6_swaps_71 ?_
              refine v_ialdQ (x := nI (src y i)) C ar_qS_1 (by decide) _ ((hRy.s (by omega)).trans hs2.2) ?_ rfl dX6_swaps_72 ?_
              · omega
              refine v_iload_n C dX6_swaps_73 rfl ?_
              first | refine v_icmp_neN C 87 dX6_swaps_74 (by decide) (by omega) (by omega) (fun c74 => ?_) (fun c74 => ?_) | refine v_icmp_ne C 87 dX6_swaps_74 (by decide) (fun c74 => ?_) (fun c74 => ?_)
              · first | refine v_iinc1 C (lo2 := [some _, some _, some _, some _, some _, some _, some _]) dX6_swaps_87 rfl rfl rfl ?_ | refine v_iinc C (lo2 := [some _, some _, some _, some _, some _, some _, some _]) dX6_swaps_87 rfl rfl rfl rfl ?_
                refine v_goto C 19 dX6_swaps_90 (by decide) ?_
                have hib : i < n := by omega
                rw [forG_s hib] at i1
                have hmu : n - (i + 1) < n - i := by omega
                first
                | (have hz : depS (two a b) i (c, y) = (c + 1, payM 2 y i) := if_pos (by show (!(two a b) i && (owb y i && (two a b) (src y i))) = true; unfold two; rw [decide_eq_false (show ¬ (i = a ∨ i = b) by omega), c46, decide_eq_true (show src y i = a ∨ src y i = b by omega)]; rfl)
                   rw [hz] at i1
                   exact ih19 (i + 1, (c + 1, payM 2 y i), f3) hmu ⟨i1, (show Pd n m (payM 2 y i) from i2.trans hI (payM_Pd hib)), hR3, by show c + 1 ≤ i + 1; omega, by show i + 1 ≤ n; omega⟩)
                | (have hz : depS (two a b) i (c, y) = (c, y) := if_neg (by show ¬ (!(two a b) i && (owb y i && (two a b) (src y i))) = true; unfold two; first | (rw [decide_eq_true (show i = a ∨ i = b by omega)]; exact Bool.false_ne_true) | (rw [c46, Bool.false_and, Bool.and_false]; exact Bool.false_ne_true) | (rw [decide_eq_false (show ¬ (src y i = a ∨ src y i = b) by omega), Bool.and_false, Bool.and_false]; exact Bool.false_ne_true))
                   rw [hz] at i1
                   exact ih19 (i + 1, (c, y), f) hmu ⟨i1, i2, hRy, by show c ≤ i + 1; omega, by show i + 1 ≤ n; omega⟩)
              · refine v_aload_n C dX6_swaps_77 rfl ?_
                refine v_iload C dX6_swaps_78 rfl ?_
                refine v_iconst (v := nI 2) C dX6_swaps_80 (by decide) ?_
                refine v_callVv C (c_X6_pays hl (g := sG g 1 f) (m := y) (n := n) (k := 2) hRy hyE hyI (by decide) (by omega)) ym_X6_pays ml_X6_282 emb_id_qS rfl rfl rfl rfl rfl dX6_swaps_81 (Nat.le_of_ble_eq_true rfl) (Nat.le_of_ble_eq_true rfl) (Nat.le_of_ble_eq_true rfl) (Nat.le_of_ble_eq_true rfl) (fun _ _ hu => hu.elim) (fun r u hu => ?_)
                obtain ⟨f3, hu, hR3⟩ := hu
                subst u
                refine V.stt (g2 := (sG g 1 f3)) (sG_sG) ?_
                first | refine v_iinc1 C (lo2 := [some _, some _, some _, some _, some _, some _, some _]) dX6_swaps_84 rfl rfl rfl ?_ | refine v_iinc C (lo2 := [some _, some _, some _, some _, some _, some _, some _]) dX6_swaps_84 rfl rfl rfl rfl ?_
                first | refine v_iinc1 C (lo2 := [some _, some _, some _, some _, some _, some _, some _]) dX6_swaps_87 rfl rfl rfl ?_ | refine v_iinc C (lo2 := [some _, some _, some _, some _, some _, some _, some _]) dX6_swaps_87 rfl rfl rfl rfl ?_
                refine v_goto C 19 dX6_swaps_90 (by decide) ?_
                have hib : i < n := by omega
                rw [forG_s hib] at i1
                have hmu : n - (i + 1) < n - i := by omega
                first
                | (have hz : depS (two a b) i (c, y) = (c + 1, payM 2 y i) := if_pos (by show (!(two a b) i && (owb y i && (two a b) (src y i))) = true; unfold two; rw [decide_eq_false (show ¬ (i = a ∨ i = b) by omega), c46, decide_eq_true (show src y i = a ∨ src y i = b by omega)]; rfl)
                   rw [hz] at i1
                   exact ih19 (i + 1, (c + 1, payM 2 y i), f3) hmu ⟨i1, (show Pd n m (payM 2 y i) from i2.trans hI (payM_Pd hib)), hR3, by show c + 1 ≤ i + 1; omega, by show i + 1 ≤ n; omega⟩)
                | (have hz : depS (two a b) i (c, y) = (c, y) := if_neg (by show ¬ (!(two a b) i && (owb y i && (two a b) (src y i))) = true; unfold two; first | (rw [decide_eq_true (show i = a ∨ i = b by omega)]; exact Bool.false_ne_true) | (rw [c46, Bool.false_and, Bool.and_false]; exact Bool.false_ne_true) | (rw [decide_eq_false (show ¬ (src y i = a ∨ src y i = b) by omega), Bool.and_false, Bool.and_false]; exact Bool.false_ne_true))
                   rw [hz] at i1
                   exact ih19 (i + 1, (c, y), f) hmu ⟨i1, i2, hRy, by show c ≤ i + 1; omega, by show i + 1 ≤ n; omega⟩)
  have H := L19 (0, (0, m), g 1) ⟨rfl, Pd.rfl, hR, Nat.le_refl _, Nat.zero_le _⟩
  try dsimp only at H
  rw [sG_id rfl] at H
  exact H
set_option maxHeartbeats 16000000 in
theorem c_X6_locks {l : Launch} (hl : l.stackTraces = false) {κ : Kp} {h : Nat → Nat} {g : G} {m : Mg} {n p : Nat} (hR : RowR m (g 1)) (hE : EvOK m) (hI : IM m n) (hs : g 0 2 = nI n) (hp : p < n) : Ct SS MM l κ yX6_locks cX6_locks 3 (some FieldType.int) 4 0 0 [.ref (h 0), .int (nI p)] (qS κ h) g ri (fun r u => r = nI (fl (owb m p)) ∧ ∃ f, u = sG g 1 f ∧ RowR (payO 2 (lckM m p (nI 1)) p) f) (fun _ _ => False) := by
  refine Ct.of (own := RX6) (by decide) rfl hl (by intro v hv; simp only [List.mem_cons, List.not_mem_nil, or_false] at hv; first | (rcases hv with rfl | rfl | rfl | rfl | rfl | rfl <;> rfl) | (rcases hv with rfl | rfl | rfl | rfl | rfl <;> rfl) | (rcases hv with rfl | rfl | rfl | rfl <;> rfl) | (rcases hv with rfl | rfl | rfl <;> rfl) | (rcases hv with rfl | rfl <;> rfl) | (subst hv; rfl) | exact hv.elim) (Nat.le_of_ble_eq_true rfl) (fun X hxl hxk C F N => ?_)
  subst hxl hxk
  show V X (qS (xK X) h) 0 [some (.ref (h 0)), some (.int (nI p)), none] [] g 0 0
  have h96 := hI.2.1
  have hR1 := Row_lck (v := nI 1) hR (show p < 96 by omega)
  refine v_aload_n C dX6_locks_0 rfl ?_
  refine v_getr C fl_X6_7 or_qS_0_3 dX6_locks_1 ?_
  refine v_sipush (v := nI 288) C dX6_locks_4 (by decide) ?_
  refine v_iload_n C dX6_locks_7 rfl ?_
  first | refine v_iaddN C dX6_locks_8 ?_ | refine v_iadd C dX6_locks_8 ?_
  refine v_iconst (v := nI 1) C dX6_locks_9 (by decide) ?_
  refine v_iast C ar_qS_1 (by decide) _ ?_ rfl dX6_locks_10 ?_
  · omega
  refine V.stt (g2 := (sG g 1 (upd (g 1) (288 + p) (nI 1)))) (rfl) ?_
  refine v_aload_n C dX6_locks_11 rfl ?_
  refine v_iload_n C dX6_locks_12 rfl ?_
  refine v_callVi C (c_X6_owes hl (g := sG g 1 (upd (g 1) (288 + p) (nI 1))) hR1 (by omega)) ym_X6_owes ml_X6_217 emb_id_qS rfl rfl rfl rfl rfl dX6_locks_13 (Nat.le_of_ble_eq_true rfl) (Nat.le_of_ble_eq_true rfl) (Nat.le_of_ble_eq_true rfl) (Nat.le_of_ble_eq_true rfl) (fun _ _ hu => hu.elim) (fun r u hu => ?_)
  obtain ⟨rfl, hu⟩ := hu
  subst u
  refine V.stt (g2 := (sG g 1 (upd (g 1) (288 + p) (nI 1)))) (rfl) ?_
  refine v_callSi C (c_X6_flag hl (b := owb m p)) ys_X6_flag rfl ml_X6_232 (emb_n fix_qS) rfl rfl rfl dX6_locks_16 (Nat.le_of_ble_eq_true rfl) (Nat.le_of_ble_eq_true rfl) (Nat.le_of_ble_eq_true rfl) (Nat.le_of_ble_eq_true rfl) (fun _ _ hu => hu.elim) (fun r u hu => ?_)
  subst r
  refine v_istore_n C (lo2 := [some _, some _, some _]) dX6_locks_19 rfl (Nat.le_of_ble_eq_true rfl) rfl ?_
  refine v_iload_n C dX6_locks_20 rfl ?_
  refine v_iconst (v := nI 1) C dX6_locks_21 (by decide) ?_
  refine v_icmp_ne C 31 dX6_locks_22 (by decide) (fun c22 => ?_) (fun c22 => ?_)
  · have ho : owb m p = false := by cases hq : owb m p with | false => rfl | true => exact absurd (by rw [hq]; rfl) c22
    refine v_iload_n C dX6_locks_31 rfl ?_
    refine v_iret C F (by first | rfl | exact bI_nar _) dX6_locks_32 (Nat.le_of_ble_eq_true rfl) (Nat.le_of_ble_eq_true rfl) ?_
    refine ⟨rfl, _, rfl, ?_⟩
    unfold payO
    rw [show owb (lckM m p (nI 1)) p = owb m p from rfl, ho]
    first
    | exact hR3
    | exact hR1
  · have ho : owb m p = true := by cases hq : owb m p with | true => rfl | false => (rw [hq] at c22; exact absurd c22 (by decide))
    refine v_aload_n C dX6_locks_25 rfl ?_
    refine v_iload_n C dX6_locks_26 rfl ?_
    refine v_iconst (v := nI 2) C dX6_locks_27 (by decide) ?_
    refine v_callVv C (c_X6_pays hl (g := sG g 1 (upd (g 1) (288 + p) (nI 1))) (m := lckM m p (nI 1)) (n := n) (k := 2) hR1 (EvOK.of hE rfl) (IM_of hI rfl rfl) (by decide) hp) ym_X6_pays ml_X6_282 emb_id_qS rfl rfl rfl rfl rfl dX6_locks_28 (Nat.le_of_ble_eq_true rfl) (Nat.le_of_ble_eq_true rfl) (Nat.le_of_ble_eq_true rfl) (Nat.le_of_ble_eq_true rfl) (fun _ _ hu => hu.elim) (fun r u hu => ?_)
    obtain ⟨f3, hu, hR3⟩ := hu
    subst u
    refine V.stt (g2 := (sG g 1 f3)) (sG_sG) ?_
    refine v_iload_n C dX6_locks_31 rfl ?_
    refine v_iret C F (by first | rfl | exact bI_nar _) dX6_locks_32 (Nat.le_of_ble_eq_true rfl) (Nat.le_of_ble_eq_true rfl) ?_
    refine ⟨rfl, _, rfl, ?_⟩
    unfold payO
    rw [show owb (lckM m p (nI 1)) p = owb m p from rfl, ho]
    first
    | exact hR3
    | exact hR1
set_option maxHeartbeats 16000000 in
theorem c_X6_ticks {l : Launch} (hl : l.stackTraces = false) {κ : Kp} {h : Nat → Nat} {g : G} {m : Mg} {n t w : Nat} (hR : RowR m (g 1)) (hE : EvOK m) (hI : IM m n) (hs : g 0 2 = nI n) (hW : m 5 0 = nI w) (hw : w ≤ 20) (ht : t ≤ 100) : Ct SS MM l κ yX6_ticks cX6_ticks 5 (some FieldType.int) 4 0 0 [.ref (h 0), .int (nI t)] (qS κ h) g ri (fun r u => r = nI (min (t * w) (cntG (owb m) 0 n)) ∧ ∃ f, u = sG g 1 f ∧ RowR (payK 1 n (min (t * w) (cntG (owb m) 0 n)) m) f) (fun _ _ => False) := by
  refine Ct.of (own := RX6) (by decide) rfl hl (by intro v hv; simp only [List.mem_cons, List.not_mem_nil, or_false] at hv; first | (rcases hv with rfl | rfl | rfl | rfl | rfl | rfl <;> rfl) | (rcases hv with rfl | rfl | rfl | rfl | rfl <;> rfl) | (rcases hv with rfl | rfl | rfl | rfl <;> rfl) | (rcases hv with rfl | rfl | rfl <;> rfl) | (rcases hv with rfl | rfl <;> rfl) | (subst hv; rfl) | exact hv.elim) (Nat.le_of_ble_eq_true rfl) (fun X hxl hxk C F N => ?_)
  subst hxl hxk
  show V X (qS (xK X) h) 0 [some (.ref (h 0)), some (.int (nI t)), none, none, none] [] g 0 0
  have h96 := hI.2.1
  have hc := cntG_le (f := owb m) n 0
  have htw : t * w ≤ 100 * 20 := Nat.mul_le_mul ht hw
  refine v_iconst (v := nI 0) C dX6_ticks_0 (by decide) ?_
  refine v_istore_n C (lo2 := [some _, some _, some _, none, none]) dX6_ticks_1 rfl (Nat.le_of_ble_eq_true rfl) rfl ?_
  refine v_iconst (v := nI 0) C dX6_ticks_2 (by decide) ?_
  refine v_istore_n C (lo2 := [some _, some _, some _, some _, none]) dX6_ticks_3 rfl (Nat.le_of_ble_eq_true rfl) rfl ?_
  have L4 : ∀ (x : Nat × (Nat → Int32)), (fun x => x.1 ≤ (min (t * w) (cntG (owb m) 0 n)) ∧ RowR (payK 1 n x.1 m) x.2) x → (fun x : Nat × (Nat → Int32) => V X (qS (xK X) h) 4 [some (.ref (h 0)), some (.int (nI t)), some (.int (nI x.1)), some (.int (nI x.1)), none] [] (sG g 1 x.2) 0 0) x := by
    refine v_ind (fun x : Nat × (Nat → Int32) => (min (t * w) (cntG (owb m) 0 n)) - x.1) ?_
    rintro ⟨k, f⟩ ih4 hI4
    try dsimp only at hI4 ⊢
    obtain ⟨i1, hRy⟩ := hI4
    have i1 : k ≤ (min (t * w) (cntG (owb m) 0 n)) := i1
    have hRy : RowR (payK 1 n k m) f := hRy
    have hk := payK_ok (kind := 1) (k := k) hI
    have hyI := hk.1.im hI
    have hyE := hk.1.1.2.2.2.2 hE
    have hy1 : (payK 1 n k m) 5 0 = nI w := by rw [hk.1.1.2.2.1]; exact hW
    refine v_iload_n C dX6_ticks_4 rfl ?_
    refine v_iload_n C dX6_ticks_5 rfl ?_
    refine v_aload_n C dX6_ticks_6 rfl ?_
    refine v_getr C fl_X6_7 or_qS_0_3 dX6_ticks_7 ?_
    refine v_sipush (v := nI 384) C dX6_ticks_10 (by decide) ?_
    refine v_ialdQ (x := nI w) C ar_qS_1 (by decide) _ ((hRy.t (k := 0) (by decide)).trans hy1) ?_ rfl dX6_ticks_13 ?_
    · omega
    first | refine v_imulN C dX6_ticks_14 ?_ | refine v_imul C dX6_ticks_14 ?_
    first | refine v_icmp_geN C 48 dX6_ticks_15 (by decide) (by omega) (by omega) (fun c15 => ?_) (fun c15 => ?_) | refine v_icmp_ge C 48 dX6_ticks_15 (by decide) (fun c15 => ?_) (fun c15 => ?_)
    · have hkm : k = (min (t * w) (cntG (owb m) 0 n)) := by omega
      refine v_iload_n C dX6_ticks_48 rfl ?_
      refine v_iret C F (by first | rfl | exact bI_nar _) dX6_ticks_49 (Nat.le_of_ble_eq_true rfl) (Nat.le_of_ble_eq_true rfl) ?_
      rw [← hkm]
      exact ⟨rfl, f, rfl, hRy⟩
    · refine v_aload_n C dX6_ticks_18 rfl ?_
      refine v_callVi C (c_X6_nextNow hl (g := sG g 1 f) (m := payK 1 n k m) (n := n) hRy hs hyI) ym_X6_nextNow ml_X6_260 emb_id_qS rfl rfl rfl rfl rfl dX6_ticks_19 (Nat.le_of_ble_eq_true rfl) (Nat.le_of_ble_eq_true rfl) (Nat.le_of_ble_eq_true rfl) (Nat.le_of_ble_eq_true rfl) (fun _ _ hu => hu.elim) (fun r u hu => ?_)
      obtain ⟨rfl, hu⟩ := hu
      subst u
      refine V.stt (g2 := (sG g 1 f)) (rfl) ?_
      refine v_istore C (lo2 := [some _, some _, some _, some _, some _]) dX6_ticks_22 rfl (Nat.le_of_ble_eq_true rfl) rfl ?_
      refine v_iload C dX6_ticks_24 rfl ?_
      refine v_iconst (v := (-1)) C dX6_ticks_26 (by decide) ?_
      refine v_icmp_ne C 32 dX6_ticks_27 (by decide) (fun c27 => ?_) (fun c27 => ?_)
      · obtain ⟨q, hq⟩ := oN_some c27
        have hqb := (next_inv n).1 q hq
        have eq0 : oN (nextM (payK 1 n k m) n ((payK 1 n k m) 5 2)) = nI q := by rw [hq]; rfl
        rw [eq0]
        have hkc : k < cntG (owb m) 0 n := by
          have := cntG_posI hqb.2 n 0 (Nat.zero_le _) (by omega)
          rw [hk.2] at this
          omega
        have hpn : payM 1 (payK 1 n k m) q = payK 1 n (k + 1) m := by
          rw [payK_s, ← payN_some hq hqb.2]
          exact (if_pos hqb.2).symm
        refine v_aload_n C dX6_ticks_32 rfl ?_
        refine v_iload C dX6_ticks_33 rfl ?_
        refine v_iconst (v := nI 1) C dX6_ticks_35 (by decide) ?_
        refine v_callVv C (c_X6_pays hl (g := sG g 1 f) (m := payK 1 n k m) (n := n) (k := 1) (p := q) hRy hyE hyI (by decide) hqb.1) ym_X6_pays ml_X6_282 emb_id_qS rfl rfl rfl rfl rfl dX6_ticks_36 (Nat.le_of_ble_eq_true rfl) (Nat.le_of_ble_eq_true rfl) (Nat.le_of_ble_eq_true rfl) (Nat.le_of_ble_eq_true rfl) (fun _ _ hu => hu.elim) (fun r u hu => ?_)
        obtain ⟨f3, hu, hR3⟩ := hu
        subst u
        refine V.stt (g2 := (sG g 1 f3)) (sG_sG) ?_
        first | refine v_iinc1 C (lo2 := [some _, some _, some _, some _, some _]) dX6_ticks_39 rfl rfl rfl ?_ | refine v_iinc C (lo2 := [some _, some _, some _, some _, some _]) dX6_ticks_39 rfl rfl rfl rfl ?_
        first | refine v_iinc1 C (lo2 := [some _, some _, some _, some _, some _]) dX6_ticks_42 rfl rfl rfl ?_ | refine v_iinc C (lo2 := [some _, some _, some _, some _, some _]) dX6_ticks_42 rfl rfl rfl rfl ?_
        refine v_goto C 4 dX6_ticks_45 (by decide) ?_
        refine V.sub (lo2 := [some _, some _, some _, some _, none]) ⟨rfl, rfl, rfl, rfl, trivial⟩ ?_
        rw [hpn] at hR3
        exact ih4 (k + 1, f3) (by show (min (t * w) (cntG (owb m) 0 n)) - (k + 1) < (min (t * w) (cntG (owb m) 0 n)) - k; omega) ⟨by show k + 1 ≤ (min (t * w) (cntG (owb m) 0 n)); omega, hR3⟩
      · have hq := oN_none c27 (fun q hq => by have := ((next_inv n).1 q hq).1; omega)
        have hcz := cntG_none (f := owb (payK 1 n k m)) n 0 (fun j _ hj => (next_inv n).2 hq j (by omega))
        rw [hk.2] at hcz
        have hkm : k = (min (t * w) (cntG (owb m) 0 n)) := by omega
        refine v_iload_n C dX6_ticks_30 rfl ?_
        refine v_iret C F (by first | rfl | exact bI_nar _) dX6_ticks_31 (Nat.le_of_ble_eq_true rfl) (Nat.le_of_ble_eq_true rfl) ?_
        rw [← hkm]
        exact ⟨rfl, f, rfl, hRy⟩
  have H := L4 (0, g 1) ⟨Nat.zero_le _, hR⟩
  try dsimp only at H
  rw [sG_id rfl] at H
  exact H
set_option maxHeartbeats 16000000 in
theorem c_X6_copies {l : Launch} (hl : l.stackTraces = false) {κ : Kp} {h : Nat → Nat} {g : G} {m : Mg} {n fr to_ len lim : Nat} (hR : RowR m (g 1)) (hE : EvOK m) (hI : IM m n) (hs : g 0 2 = nI n) (hL : m 5 1 = nI lim) (hl96 : lim ≤ 96) (h1 : 1 ≤ len) (hf : fr + len ≤ n) (ht : to_ + len ≤ n) : Ct SS MM l κ yX6_copies cX6_copies 8 none 5 0 0 [.ref (h 0), .int (nI fr), .int (nI to_), .int (nI len)] (qS κ h) g rv (fun _ u => ∃ hd f, u = sG (sG g 5 hd) 1 f ∧ RowR (copyM n fr to_ len m) f) (fun _ _ => False) := by
  refine Ct.of (own := RX6) (by decide) rfl hl (by intro v hv; simp only [List.mem_cons, List.not_mem_nil, or_false] at hv; first | (rcases hv with rfl | rfl | rfl | rfl | rfl | rfl <;> rfl) | (rcases hv with rfl | rfl | rfl | rfl | rfl <;> rfl) | (rcases hv with rfl | rfl | rfl | rfl <;> rfl) | (rcases hv with rfl | rfl | rfl <;> rfl) | (rcases hv with rfl | rfl <;> rfl) | (subst hv; rfl) | exact hv.elim) (Nat.le_of_ble_eq_true rfl) (fun X hxl hxk C F N => ?_)
  subst hxl hxk
  show V X (qS (xK X) h) 0 [some (.ref (h 0)), some (.int (nI fr)), some (.int (nI to_)), some (.int (nI len)), none, none, none, none] [] g 0 0
  have h96 := hI.2.1
  obtain ⟨k1, k2, k3⟩ := cop0_ok (to_ := to_) (len := len) hI hE
  have hd0 := depM_ok (T := (rowT to_ (to_ + len - 1))) k1
  have hDI : IM (copD n to_ len m) n := hd0.1.im k1
  have hDE : EvOK (copD n to_ len m) := hd0.1.1.2.2.2.2 k2
  have hr0 := drpM_ok (T := (rowT to_ (to_ + len - 1))) (n := n) (m := copD n to_ len m)
  have hSep := sep_dep (T := (rowT to_ (to_ + len - 1))) k1
  have hval : ∀ i, i < len → valM m (fr + i) = (fun i => valM (copD n to_ len m) (fr + i)) i := fun i hi => by
    show _ = valM (depM (rowT to_ (to_ + len - 1)) n (cop0 to_ len m)).2 (fr + i)
    rw [hd0.1.val k1 (fr + i) (by omega)]
    exact (valM_of (k3 2 (by decide) (by decide) (by decide)) (k3 1 (by decide) (by decide) (by decide)) _).symm
  have hTt : ∀ i, i < len → (rowT to_ (to_ + len - 1)) (to_ + i) = true := fun i hi => by unfold rowT; exact decide_eq_true (by omega)
  have elast := nI_toInt (n := to_ + len - 1) (by omega)
  have eto := nI_toInt (n := to_) (by omega)
  refine v_aload_n C dX6_copies_0 rfl ?_
  refine v_getr C fl_X6_7 or_qS_0_3 dX6_copies_1 ?_
  refine v_sipush (v := nI 389) C dX6_copies_4 (by decide) ?_
  refine v_ialdQ (x := m 6 0) C ar_qS_1 (by decide) _ (hR.c) ?_ rfl dX6_copies_7 ?_
  · omega
  refine v_istore C (lo2 := [some _, some _, some _, some _, some _, none, none, none]) dX6_copies_8 rfl (Nat.le_of_ble_eq_true rfl) rfl ?_
  refine v_iload_n C dX6_copies_10 rfl ?_
  refine v_iload_n C dX6_copies_11 rfl ?_
  first | refine v_iaddN C dX6_copies_12 ?_ | refine v_iadd C dX6_copies_12 ?_
  refine v_iconst (v := nI 1) C dX6_copies_13 (by decide) ?_
  first | refine v_isubN C dX6_copies_14 (by omega) ?_ | refine v_isub C dX6_copies_14 ?_
  refine v_istore C (lo2 := [some _, some _, some _, some _, some _, some _, none, none]) dX6_copies_15 rfl (Nat.le_of_ble_eq_true rfl) rfl ?_
  refine v_aload_n C dX6_copies_17 rfl ?_
  refine v_getr C fl_X6_7 or_qS_0_3 dX6_copies_18 ?_
  refine v_sipush (v := nI 389) C dX6_copies_21 (by decide) ?_
  refine v_dup2 C dX6_copies_24 rfl rfl ?_
  refine v_ialdQ (x := m 6 0) C ar_qS_1 (by decide) _ (hR.c) ?_ rfl dX6_copies_25 ?_
  · omega
  refine v_iconst (v := nI 1) C dX6_copies_26 (by decide) ?_
  first | refine v_iaddN C dX6_copies_27 ?_ | refine v_iadd C dX6_copies_27 ?_
  refine v_iast C ar_qS_1 (by decide) _ ?_ rfl dX6_copies_28 ?_
  · omega
  refine V.stt (g2 := (sG g 1 (upd (g 1) 389 (m 6 0 + nI 1)))) (rfl) ?_
  refine v_aload_n C dX6_copies_29 rfl ?_
  refine v_getr C fl_X6_7 or_qS_0_3 dX6_copies_30 ?_
  refine v_sipush (v := nI 390) C dX6_copies_33 (by decide) ?_
  refine v_dup2 C dX6_copies_36 rfl rfl ?_
  refine v_ialdQ (x := m 6 0) C ar_qS_1 (by decide) _ ((by rw [sG_at, upd_o (by omega)]; exact hR.a (k := 0) (by decide))) ?_ rfl dX6_copies_37 ?_
  · omega
  refine v_iconst (v := nI 1) C dX6_copies_38 (by decide) ?_
  first | refine v_iaddN C dX6_copies_39 ?_ | refine v_iadd C dX6_copies_39 ?_
  refine v_iast C ar_qS_1 (by decide) _ ?_ rfl dX6_copies_40 ?_
  · omega
  refine V.stt (g2 := (sG g 1 (upd (upd (g 1) 389 (m 6 0 + nI 1)) 390 (m 6 0 + nI 1)))) (sG_sG) ?_
  refine v_aload_n C dX6_copies_41 rfl ?_
  refine v_getr C fl_X6_7 or_qS_0_3 dX6_copies_42 ?_
  refine v_sipush (v := nI 391) C dX6_copies_45 (by decide) ?_
  refine v_dup2 C dX6_copies_48 rfl rfl ?_
  refine v_ialdQ (x := m 6 1) C ar_qS_1 (by decide) _ ((by rw [sG_at, upd_o (by omega), upd_o (by omega)]; exact hR.a (k := 1) (by decide))) ?_ rfl dX6_copies_49 ?_
  · omega
  refine v_iload_n C dX6_copies_50 rfl ?_
  first | refine v_iaddN C dX6_copies_51 ?_ | refine v_iadd C dX6_copies_51 ?_
  refine v_iast C ar_qS_1 (by decide) _ ?_ rfl dX6_copies_52 ?_
  · omega
  refine V.stt (g2 := (sG g 1 (upd (upd (upd (g 1) 389 (m 6 0 + nI 1)) 390 (m 6 0 + nI 1)) 391 (m 6 1 + nI len)))) (sG_sG) ?_
  refine v_aload_n C dX6_copies_53 rfl ?_
  refine v_iconst (v := nI 0) C dX6_copies_54 (by decide) ?_
  refine v_iload_n C dX6_copies_55 rfl ?_
  refine v_iload_n C dX6_copies_56 rfl ?_
  refine v_callVv C (c_X6_logs hl (g := sG g 1 (upd (upd (upd (g 1) 389 (m 6 0 + nI 1)) 390 (m 6 0 + nI 1)) 391 (m 6 1 + nI len))) (m := accM (accM m 0 (nI 1)) 1 (nI len)) (Row_acc (k := 1) (Row_acc0 hR rfl rfl) (by decide) (by decide)) (EvOK.of hE rfl)) ym_X6_logs ml_X6_272 emb_id_qS rfl rfl rfl rfl rfl dX6_copies_57 (Nat.le_of_ble_eq_true rfl) (Nat.le_of_ble_eq_true rfl) (Nat.le_of_ble_eq_true rfl) (Nat.le_of_ble_eq_true rfl) (fun _ _ hu => hu.elim) (fun r u hu => ?_)
  obtain ⟨f1, hu, hR1⟩ := hu
  subst u
  have hR1 : RowR (cop0 to_ len m) f1 := hR1
  refine V.stt (g2 := (sG g 1 f1)) (sG_sG) ?_
  refine v_iconst (v := nI 0) C dX6_copies_60 (by decide) ?_
  refine v_istore C (lo2 := [some _, some _, some _, some _, some _, some _, some _, none]) dX6_copies_61 rfl (Nat.le_of_ble_eq_true rfl) rfl ?_
  have L63 : ∀ (t : Nat × (Nat → Int32)), (fun t => t.1 ≤ len ∧ ∀ i, i < t.1 → t.2 i = (fun i => valM (copD n to_ len m) (fr + i)) i) t → (fun t : Nat × (Nat → Int32) => V X (qS (xK X) h) 63 [some (.ref (h 0)), some (.int (nI fr)), some (.int (nI to_)), some (.int (nI len)), some (.int (m 6 0)), some (.int (nI (to_ + len - 1))), some (.int (nI t.1)), none] [] (sG (sG g 1 f1) 5 t.2) 0 0) t := by
    refine v_ind (fun t : Nat × (Nat → Int32) => len - t.1) ?_
    rintro ⟨i, hd⟩ ih63 hI63
    try dsimp only at hI63 ⊢
    obtain ⟨i1, hhd⟩ := hI63
    have hhd : ∀ j, j < i → hd j = (fun i => valM (copD n to_ len m) (fr + i)) j := hhd
    refine v_iload C dX6_copies_63 rfl ?_
    refine v_iload_n C dX6_copies_65 rfl ?_
    first | refine v_icmp_geN C 90 dX6_copies_66 (by decide) (by omega) (by omega) (fun c66 => ?_) (fun c66 => ?_) | refine v_icmp_ge C 90 dX6_copies_66 (by decide) (fun c66 => ?_) (fun c66 => ?_)
    · refine v_aload_n C dX6_copies_90 rfl ?_
      refine v_iload_n C dX6_copies_91 rfl ?_
      refine v_iload C dX6_copies_92 rfl ?_
      refine v_callVi C (c_X6_paysOwing hl (g := sG (sG g 1 f1) 5 hd) (m := cop0 to_ len m) (n := n) hR1 k2 k1 hs (by omega) (by omega)) ym_X6_paysOwing ml_X6_285 emb_id_qS rfl rfl rfl rfl rfl dX6_copies_94 (Nat.le_of_ble_eq_true rfl) (Nat.le_of_ble_eq_true rfl) (Nat.le_of_ble_eq_true rfl) (Nat.le_of_ble_eq_true rfl) (fun _ _ hu => hu.elim) (fun r u hu => ?_)
      obtain ⟨rfl, f2, hu, hR2⟩ := hu
      subst u
      have hR2 : RowR (copD n to_ len m) f2 := hR2
      refine V.stt (g2 := (sG (sG g 5 hd) 1 f2)) (by rw [sG_comm (a := 1) (b := 5) (by decide), sG_sG]) ?_
      refine v_istore C (lo2 := [some _, some _, some _, some _, some _, some _, some _, none]) dX6_copies_97 rfl (Nat.le_of_ble_eq_true rfl) rfl ?_
      refine v_iload_n C dX6_copies_99 rfl ?_
      refine v_istore C (lo2 := [some _, some _, some _, some _, some _, some _, some _, some _]) dX6_copies_100 rfl (Nat.le_of_ble_eq_true rfl) rfl ?_
      have L102 : ∀ (t : Nat × Mg × (Nat → Int32)), (fun t => to_ ≤ t.1 ∧ t.1 ≤ to_ + len ∧ EvOK t.2.1 ∧ RowR t.2.1 t.2.2 ∧ forG (fun p y => dropO y p) t.1 (to_ + len - t.1) t.2.1 = (drpM (rowT to_ (to_ + len - 1)) n (copD n to_ len m))) t → (fun t : Nat × Mg × (Nat → Int32) => V X (qS (xK X) h) 102 [some (.ref (h 0)), some (.int (nI fr)), some (.int (nI to_)), some (.int (nI len)), some (.int (m 6 0)), some (.int (nI (to_ + len - 1))), none, some (.int (nI t.1))] [] (sG (sG g 5 hd) 1 t.2.2) 0 0) t := by
        refine v_ind (fun t : Nat × Mg × (Nat → Int32) => to_ + len - t.1) ?_
        rintro ⟨p, y, f⟩ ih102 hI102
        try dsimp only at hI102 ⊢
        obtain ⟨q1, q2, hyE, hRy, q4⟩ := hI102
        have hyE : EvOK y := hyE
        have hRy : RowR y f := hRy
        have q1 : to_ ≤ p := q1
        have q2 : p ≤ to_ + len := q2
        refine v_iload C dX6_copies_102 rfl ?_
        refine v_iload C dX6_copies_104 rfl ?_
        first | refine v_icmp_gtN C 121 dX6_copies_106 (by decide) (by omega) (by omega) (fun c106 => ?_) (fun c106 => ?_) | refine v_icmp_gt C 121 dX6_copies_106 (by decide) (fun c106 => ?_) (fun c106 => ?_)
        · refine v_iconst (v := nI 0) C dX6_copies_121 (by decide) ?_
          refine v_istore C (lo2 := [some _, some _, some _, some _, some _, some _, none, some _]) dX6_copies_122 rfl (Nat.le_of_ble_eq_true rfl) rfl ?_
          rw [forG_0 (by omega)] at q4
          have L124 : ∀ (t : Nat × Mg × (Nat → Int32)), (fun t => t.1 ≤ len ∧ IM t.2.1 n ∧ Sep (rowT to_ (to_ + len - 1)) n t.2.1 ∧ EvOK t.2.1 ∧ t.2.1 5 = m 5 ∧ RowR t.2.1 t.2.2 ∧ forG (copA (rowT to_ (to_ + len - 1)) fr to_ (fun i => valM (copD n to_ len m) (fr + i))) t.1 (len - t.1) t.2.1 = (forG (copA (rowT to_ (to_ + len - 1)) fr to_ (fun i => valM (copD n to_ len m) (fr + i))) 0 len (drpM (rowT to_ (to_ + len - 1)) n (copD n to_ len m)))) t → (fun t : Nat × Mg × (Nat → Int32) => V X (qS (xK X) h) 124 [some (.ref (h 0)), some (.int (nI fr)), some (.int (nI to_)), some (.int (nI len)), some (.int (m 6 0)), some (.int (nI (to_ + len - 1))), none, some (.int (nI t.1))] [] (sG (sG g 5 hd) 1 t.2.2) 0 0) t := by
            refine v_ind (fun t : Nat × Mg × (Nat → Int32) => len - t.1) ?_
            rintro ⟨i, y, f⟩ ih124 hI124
            try dsimp only at hI124 ⊢
            obtain ⟨i1, hyI, hyS, hyE, hy5, hRy, i4⟩ := hI124
            have hyI : IM y n := hyI
            have hyE : EvOK y := hyE
            have hy5 : y 5 = m 5 := hy5
            have hRy : RowR y f := hRy
            refine v_iload C dX6_copies_124 rfl ?_
            refine v_iload_n C dX6_copies_126 rfl ?_
            first | refine v_icmp_geN C 176 dX6_copies_127 (by decide) (by omega) (by omega) (fun c127 => ?_) (fun c127 => ?_) | refine v_icmp_ge C 176 dX6_copies_127 (by decide) (fun c127 => ?_) (fun c127 => ?_)
            · refine v_iconst (v := nI 0) C dX6_copies_176 (by decide) ?_
              refine v_istore C (lo2 := [some _, some _, some _, some _, some _, some _, none, some _]) dX6_copies_177 rfl (Nat.le_of_ble_eq_true rfl) rfl ?_
              rw [show len - i = 0 by omega] at i4
              have i4 : y = (forG (copA (rowT to_ (to_ + len - 1)) fr to_ (fun i => valM (copD n to_ len m) (fr + i))) 0 len (drpM (rowT to_ (to_ + len - 1)) n (copD n to_ len m))) := i4
              subst i4
              have L179 : ∀ (t : Nat × Mg × (Nat → Int32)), (fun t => t.1 ≤ len ∧ IM t.2.1 n ∧ Sep (rowT to_ (to_ + len - 1)) n t.2.1 ∧ EvOK t.2.1 ∧ t.2.1 5 = m 5 ∧ RowR t.2.1 t.2.2 ∧ forG (copO (rowT to_ (to_ + len - 1)) fr to_ (m 6 0)) t.1 (len - t.1) t.2.1 = copL n fr to_ len m) t → (fun t : Nat × Mg × (Nat → Int32) => V X (qS (xK X) h) 179 [some (.ref (h 0)), some (.int (nI fr)), some (.int (nI to_)), some (.int (nI len)), some (.int (m 6 0)), some (.int (nI (to_ + len - 1))), none, some (.int (nI t.1))] [] (sG (sG g 5 hd) 1 t.2.2) 0 0) t := by
                refine v_ind (fun t : Nat × Mg × (Nat → Int32) => len - t.1) ?_
                rintro ⟨i, y, f⟩ ih179 hI179
                try dsimp only at hI179 ⊢
                obtain ⟨i1, hyI, hyS, hyE, hy5, hRy, i4⟩ := hI179
                have hyI : IM y n := hyI
                have hyE : EvOK y := hyE
                have hy5 : y 5 = m 5 := hy5
                have hRy : RowR y f := hRy
                refine v_iload C dX6_copies_179 rfl ?_
                refine v_iload_n C dX6_copies_181 rfl ?_
                first | refine v_icmp_geN C 258 dX6_copies_182 (by decide) (by omega) (by omega) (fun c182 => ?_) (fun c182 => ?_) | refine v_icmp_ge C 258 dX6_copies_182 (by decide) (fun c182 => ?_) (fun c182 => ?_)
                · rw [show len - i = 0 by omega] at i4
                  have i4 : y = copL n fr to_ len m := i4
                  refine v_aload_n C dX6_copies_258 rfl ?_
                  refine v_callVv C (c_X6_paysToLimit hl (g := (sG (sG g 5 hd) 1 f)) (m := y) (n := n) (lim := lim) hRy hyE hyI hs (by rw [hy5]; exact hL) hl96) ym_X6_paysToLimit ml_X6_291 emb_id_qS rfl rfl rfl rfl rfl dX6_copies_259 (Nat.le_of_ble_eq_true rfl) (Nat.le_of_ble_eq_true rfl) (Nat.le_of_ble_eq_true rfl) (Nat.le_of_ble_eq_true rfl) (fun _ _ hu => hu.elim) (fun r u hu => ?_)
                  obtain ⟨f3, hu, hR3⟩ := hu
                  subst u
                  refine V.stt (g2 := (sG (sG g 5 hd) 1 f3)) (sG_sG) ?_
                  refine v_vret C F dX6_copies_262 (Nat.le_of_ble_eq_true rfl) (Nat.le_of_ble_eq_true rfl) ?_
                  exact ⟨hd, f3, rfl, by unfold copyM; rw [← i4]; exact hR3⟩
                · refine v_iload_n C dX6_copies_185 rfl ?_
                  refine v_iload C dX6_copies_186 rfl ?_
                  first | refine v_iaddN C dX6_copies_188 ?_ | refine v_iadd C dX6_copies_188 ?_
                  refine v_iload_n C dX6_copies_189 rfl ?_
                  refine v_iload C dX6_copies_190 rfl ?_
                  refine v_callSi C (c_X6_in hl (v := nI (fr + i)) eto elast) ys_X6_in rfl ml_X6_98 (emb_n fix_qS) rfl rfl rfl dX6_copies_192 (Nat.le_of_ble_eq_true rfl) (Nat.le_of_ble_eq_true rfl) (Nat.le_of_ble_eq_true rfl) (Nat.le_of_ble_eq_true rfl) (fun _ _ hu => hu.elim) (fun r u hu => ?_)
                  subst r
                  rw [in_row (by omega)]
                  refine v_if_neB C 252 dX6_copies_195 (by decide) (fun c195 => ?_) (fun c195 => ?_)
                  · first | refine v_iinc1 C (lo2 := [some _, some _, some _, some _, some _, some _, none, some _]) dX6_copies_252 rfl rfl rfl ?_ | refine v_iinc C (lo2 := [some _, some _, some _, some _, some _, some _, none, some _]) dX6_copies_252 rfl rfl rfl rfl ?_
                    refine v_goto C 179 dX6_copies_255 (by decide) ?_
                    have hib : i < len := by omega
                    rw [forG_s hib] at i4
                    have hok := copO_ok (T := (rowT to_ (to_ + len - 1))) (fr := fr) (to_ := to_) (i := i) (num := m 6 0) hyI hyS hyE (by omega) (by omega) (hTt i hib)
                    have hmu : len - (i + 1) < len - i := by omega
                    first
                    | (have hz : copO (rowT to_ (to_ + len - 1)) fr to_ (m 6 0) i y = y := if_pos c195
                       exact ih179 (i + 1, copO (rowT to_ (to_ + len - 1)) fr to_ (m 6 0) i y, f) hmu ⟨by show i + 1 ≤ len; omega, hok.1, hok.2.1, hok.2.2.1, hok.2.2.2.trans hy5, (by show RowR (copO (rowT to_ (to_ + len - 1)) fr to_ (m 6 0) i y) f; rw [hz]; exact hRy), i4⟩)
                    | (have hz : copO (rowT to_ (to_ + len - 1)) fr to_ (m 6 0) i y = oweM y (to_ + i) (fr + i) (m 6 0) := if_neg (by rw [c195]; exact Bool.false_ne_true)
                       exact ih179 (i + 1, copO (rowT to_ (to_ + len - 1)) fr to_ (m 6 0) i y, _) hmu ⟨by show i + 1 ≤ len; omega, hok.1, hok.2.1, hok.2.2.1, hok.2.2.2.trans hy5, (by show RowR (copO (rowT to_ (to_ + len - 1)) fr to_ (m 6 0) i y) _; rw [hz]; exact Row_prm (Row_src hRy (by omega)) (by omega)), i4⟩)
                  · refine v_aload_n C dX6_copies_198 rfl ?_
                    refine v_getr C fl_X6_7 or_qS_0_3 dX6_copies_199 ?_
                    refine v_bipush (v := nI 96) C dX6_copies_202 (by decide) ?_
                    refine v_iload_n C dX6_copies_204 rfl ?_
                    first | refine v_iaddN C dX6_copies_205 ?_ | refine v_iadd C dX6_copies_205 ?_
                    refine v_iload C dX6_copies_206 rfl ?_
                    first | refine v_iaddN C dX6_copies_208 ?_ | refine v_iadd C dX6_copies_208 ?_
                    refine v_aload_n C dX6_copies_209 rfl ?_
                    refine v_getr C fl_X6_7 or_qS_0_3 dX6_copies_210 ?_
                    refine v_sipush (v := nI 387) C dX6_copies_213 (by decide) ?_
                    refine v_ialdQ (x := y 5 3) C ar_qS_1 (by decide) _ (hRy.t (k := 3) (by decide)) ?_ rfl dX6_copies_216 ?_
                    · omega
                    refine v_iconst (v := nI 1) C dX6_copies_217 (by decide) ?_
                    refine v_icmp_ne C 232 dX6_copies_218 (by decide) (fun c218 => ?_) (fun c218 => ?_)
                    · refine v_iload_n C dX6_copies_232 rfl ?_
                      refine v_iload C dX6_copies_233 rfl ?_
                      first | refine v_iaddN C dX6_copies_235 ?_ | refine v_iadd C dX6_copies_235 ?_
                      refine v_iast C ar_qS_1 (by decide) _ ?_ rfl dX6_copies_236 ?_
                      · omega
                      refine V.stt (g2 := sG (sG g 5 hd) 1 (upd f (96 + (to_ + i)) (nI (if y 5 3 = nI 1 then rootM y (fr + i) else fr + i)))) (by first | (rw [if_pos c218, Nat.add_assoc]; exact sG_sG) | (rw [if_neg c218, Nat.add_assoc]; exact sG_sG)) ?_
                      refine v_aload_n C dX6_copies_237 rfl ?_
                      refine v_getr C fl_X6_7 or_qS_0_3 dX6_copies_238 ?_
                      refine v_sipush (v := nI 192) C dX6_copies_241 (by decide) ?_
                      refine v_iload_n C dX6_copies_244 rfl ?_
                      first | refine v_iaddN C dX6_copies_245 ?_ | refine v_iadd C dX6_copies_245 ?_
                      refine v_iload C dX6_copies_246 rfl ?_
                      first | refine v_iaddN C dX6_copies_248 ?_ | refine v_iadd C dX6_copies_248 ?_
                      refine v_iload C dX6_copies_249 rfl ?_
                      refine v_iast C ar_qS_1 (by decide) _ ?_ rfl dX6_copies_251 ?_
                      · omega
                      refine V.stt (g2 := (sG (sG g 5 hd) 1 (upd (upd f (96 + (to_ + i)) (nI (if y 5 3 = nI 1 then rootM y (fr + i) else fr + i))) (192 + (to_ + i)) (m 6 0)))) (by rw [Nat.add_assoc]; exact sG_sG) ?_
                      first | refine v_iinc1 C (lo2 := [some _, some _, some _, some _, some _, some _, none, some _]) dX6_copies_252 rfl rfl rfl ?_ | refine v_iinc C (lo2 := [some _, some _, some _, some _, some _, some _, none, some _]) dX6_copies_252 rfl rfl rfl rfl ?_
                      refine v_goto C 179 dX6_copies_255 (by decide) ?_
                      have hib : i < len := by omega
                      rw [forG_s hib] at i4
                      have hok := copO_ok (T := (rowT to_ (to_ + len - 1))) (fr := fr) (to_ := to_) (i := i) (num := m 6 0) hyI hyS hyE (by omega) (by omega) (hTt i hib)
                      have hmu : len - (i + 1) < len - i := by omega
                      first
                      | (have hz : copO (rowT to_ (to_ + len - 1)) fr to_ (m 6 0) i y = y := if_pos c195
                         exact ih179 (i + 1, copO (rowT to_ (to_ + len - 1)) fr to_ (m 6 0) i y, f) hmu ⟨by show i + 1 ≤ len; omega, hok.1, hok.2.1, hok.2.2.1, hok.2.2.2.trans hy5, (by show RowR (copO (rowT to_ (to_ + len - 1)) fr to_ (m 6 0) i y) f; rw [hz]; exact hRy), i4⟩)
                      | (have hz : copO (rowT to_ (to_ + len - 1)) fr to_ (m 6 0) i y = oweM y (to_ + i) (fr + i) (m 6 0) := if_neg (by rw [c195]; exact Bool.false_ne_true)
                         exact ih179 (i + 1, copO (rowT to_ (to_ + len - 1)) fr to_ (m 6 0) i y, _) hmu ⟨by show i + 1 ≤ len; omega, hok.1, hok.2.1, hok.2.2.1, hok.2.2.2.trans hy5, (by show RowR (copO (rowT to_ (to_ + len - 1)) fr to_ (m 6 0) i y) _; rw [hz]; exact Row_prm (Row_src hRy (by omega)) (by omega)), i4⟩)
                    · refine v_aload_n C dX6_copies_221 rfl ?_
                      refine v_iload_n C dX6_copies_222 rfl ?_
                      refine v_iload C dX6_copies_223 rfl ?_
                      first | refine v_iaddN C dX6_copies_225 ?_ | refine v_iadd C dX6_copies_225 ?_
                      refine v_callVi C (c_X6_rootOf hl (g := (sG (sG g 5 hd) 1 f)) (m := y) (n := n) hRy hyI (by omega)) ym_X6_rootOf ml_X6_220 emb_id_qS rfl rfl rfl rfl rfl dX6_copies_226 (Nat.le_of_ble_eq_true rfl) (Nat.le_of_ble_eq_true rfl) (Nat.le_of_ble_eq_true rfl) (Nat.le_of_ble_eq_true rfl) (fun _ _ hu => hu.elim) (fun r u hu => ?_)
                      obtain ⟨rfl, hu⟩ := hu
                      subst u
                      refine V.stt (g2 := (sG (sG g 5 hd) 1 f)) (rfl) ?_
                      refine v_goto C 236 dX6_copies_229 (by decide) ?_
                      refine v_iast C ar_qS_1 (by decide) _ ?_ rfl dX6_copies_236 ?_
                      · omega
                      refine V.stt (g2 := sG (sG g 5 hd) 1 (upd f (96 + (to_ + i)) (nI (if y 5 3 = nI 1 then rootM y (fr + i) else fr + i)))) (by first | (rw [if_pos c218, Nat.add_assoc]; exact sG_sG) | (rw [if_neg c218, Nat.add_assoc]; exact sG_sG)) ?_
                      refine v_aload_n C dX6_copies_237 rfl ?_
                      refine v_getr C fl_X6_7 or_qS_0_3 dX6_copies_238 ?_
                      refine v_sipush (v := nI 192) C dX6_copies_241 (by decide) ?_
                      refine v_iload_n C dX6_copies_244 rfl ?_
                      first | refine v_iaddN C dX6_copies_245 ?_ | refine v_iadd C dX6_copies_245 ?_
                      refine v_iload C dX6_copies_246 rfl ?_
                      first | refine v_iaddN C dX6_copies_248 ?_ | refine v_iadd C dX6_copies_248 ?_
                      refine v_iload C dX6_copies_249 rfl ?_
                      refine v_iast C ar_qS_1 (by decide) _ ?_ rfl dX6_copies_251 ?_
                      · omega
                      refine V.stt (g2 := (sG (sG g 5 hd) 1 (upd (upd f (96 + (to_ + i)) (nI (if y 5 3 = nI 1 then rootM y (fr + i) else fr + i))) (192 + (to_ + i)) (m 6 0)))) (by rw [Nat.add_assoc]; exact sG_sG) ?_
                      first | refine v_iinc1 C (lo2 := [some _, some _, some _, some _, some _, some _, none, some _]) dX6_copies_252 rfl rfl rfl ?_ | refine v_iinc C (lo2 := [some _, some _, some _, some _, some _, some _, none, some _]) dX6_copies_252 rfl rfl rfl rfl ?_
                      refine v_goto C 179 dX6_copies_255 (by decide) ?_
                      have hib : i < len := by omega
                      rw [forG_s hib] at i4
                      have hok := copO_ok (T := (rowT to_ (to_ + len - 1))) (fr := fr) (to_ := to_) (i := i) (num := m 6 0) hyI hyS hyE (by omega) (by omega) (hTt i hib)
                      have hmu : len - (i + 1) < len - i := by omega
                      first
                      | (have hz : copO (rowT to_ (to_ + len - 1)) fr to_ (m 6 0) i y = y := if_pos c195
                         exact ih179 (i + 1, copO (rowT to_ (to_ + len - 1)) fr to_ (m 6 0) i y, f) hmu ⟨by show i + 1 ≤ len; omega, hok.1, hok.2.1, hok.2.2.1, hok.2.2.2.trans hy5, (by show RowR (copO (rowT to_ (to_ + len - 1)) fr to_ (m 6 0) i y) f; rw [hz]; exact hRy), i4⟩)
                      | (have hz : copO (rowT to_ (to_ + len - 1)) fr to_ (m 6 0) i y = oweM y (to_ + i) (fr + i) (m 6 0) := if_neg (by rw [c195]; exact Bool.false_ne_true)
                         exact ih179 (i + 1, copO (rowT to_ (to_ + len - 1)) fr to_ (m 6 0) i y, _) hmu ⟨by show i + 1 ≤ len; omega, hok.1, hok.2.1, hok.2.2.1, hok.2.2.2.trans hy5, (by show RowR (copO (rowT to_ (to_ + len - 1)) fr to_ (m 6 0) i y) _; rw [hz]; exact Row_prm (Row_src hRy (by omega)) (by omega)), i4⟩)
              exact L179 (0, (forG (copA (rowT to_ (to_ + len - 1)) fr to_ (fun i => valM (copD n to_ len m) (fr + i))) 0 len (drpM (rowT to_ (to_ + len - 1)) n (copD n to_ len m))), f) ⟨Nat.zero_le _, hyI, hyS, hyE, hy5, hRy, by unfold copL; rw [cop_split]; rfl⟩
            · refine v_iload_n C dX6_copies_130 rfl ?_
              refine v_iload C dX6_copies_131 rfl ?_
              first | refine v_iaddN C dX6_copies_133 ?_ | refine v_iadd C dX6_copies_133 ?_
              refine v_iload_n C dX6_copies_134 rfl ?_
              refine v_iload C dX6_copies_135 rfl ?_
              refine v_callSi C (c_X6_in hl (v := nI (fr + i)) eto elast) ys_X6_in rfl ml_X6_98 (emb_n fix_qS) rfl rfl rfl dX6_copies_137 (Nat.le_of_ble_eq_true rfl) (Nat.le_of_ble_eq_true rfl) (Nat.le_of_ble_eq_true rfl) (Nat.le_of_ble_eq_true rfl) (fun _ _ hu => hu.elim) (fun r u hu => ?_)
              subst r
              rw [in_row (by omega)]
              refine v_if_eqB C 170 dX6_copies_140 (by decide) (fun c140 => ?_) (fun c140 => ?_)
              · first | refine v_iinc1 C (lo2 := [some _, some _, some _, some _, some _, some _, none, some _]) dX6_copies_170 rfl rfl rfl ?_ | refine v_iinc C (lo2 := [some _, some _, some _, some _, some _, some _, none, some _]) dX6_copies_170 rfl rfl rfl rfl ?_
                refine v_goto C 124 dX6_copies_173 (by decide) ?_
                have hib : i < len := by omega
                rw [forG_s hib] at i4
                have hok := copA_ok (T := (rowT to_ (to_ + len - 1))) (fr := fr) (to_ := to_) (i := i) (c := (fun i => valM (copD n to_ len m) (fr + i))) hyI hyS hyE
                have hmu : len - (i + 1) < len - i := by omega
                first
                | (have hz : copA (rowT to_ (to_ + len - 1)) fr to_ (fun i => valM (copD n to_ len m) (fr + i)) i y = cpM (noteM (byteM y (to_ + i) ((fun i => valM (copD n to_ len m) (fr + i)) i)) (nI 3) (nI (to_ + i)) ((fun i => valM (copD n to_ len m) (fr + i)) i)) 3 := if_pos c140
                   exact ih124 (i + 1, copA (rowT to_ (to_ + len - 1)) fr to_ (fun i => valM (copD n to_ len m) (fr + i)) i y, f3) hmu ⟨by show i + 1 ≤ len; omega, hok.1, hok.2.1, hok.2.2.1, hok.2.2.2.trans hy5, (by show RowR (copA (rowT to_ (to_ + len - 1)) fr to_ (fun i => valM (copD n to_ len m) (fr + i)) i y) f3; rw [hz]; exact hR3), i4⟩)
                | (have hz : copA (rowT to_ (to_ + len - 1)) fr to_ (fun i => valM (copD n to_ len m) (fr + i)) i y = y := if_neg (by rw [c140]; exact Bool.false_ne_true)
                   exact ih124 (i + 1, copA (rowT to_ (to_ + len - 1)) fr to_ (fun i => valM (copD n to_ len m) (fr + i)) i y, f) hmu ⟨by show i + 1 ≤ len; omega, hok.1, hok.2.1, hok.2.2.1, hok.2.2.2.trans hy5, (by show RowR (copA (rowT to_ (to_ + len - 1)) fr to_ (fun i => valM (copD n to_ len m) (fr + i)) i y) f; rw [hz]; exact hRy), i4⟩)
              · refine v_aload_n C dX6_copies_143 rfl ?_
                refine v_getr C fl_X6_7 or_qS_0_3 dX6_copies_144 ?_
                refine v_iconst (v := nI 0) C dX6_copies_147 (by decide) ?_
                refine v_iload_n C dX6_copies_148 rfl ?_
                first | refine v_iaddN C dX6_copies_149 ?_ | refine v_iadd C dX6_copies_149 ?_
                refine v_iload C dX6_copies_150 rfl ?_
                first | refine v_iaddN C dX6_copies_152 ?_ | refine v_iadd C dX6_copies_152 ?_
                refine v_aload_n C dX6_copies_153 rfl ?_
                refine v_getr C fl_X6_27 or_qS_0_22 dX6_copies_154 ?_
                refine v_iload C dX6_copies_157 rfl ?_
                refine v_ialdQ (x := (fun i => valM (copD n to_ len m) (fr + i)) i) C ar_qS_5 (by decide) _ (hhd i (by omega)) ?_ rfl dX6_copies_159 ?_
                · omega
                refine v_iast C ar_qS_1 (by decide) _ ?_ rfl dX6_copies_160 ?_
                · omega
                refine V.stt (g2 := (sG (sG g 5 hd) 1 (upd f (to_ + i) ((fun i => valM (copD n to_ len m) (fr + i)) i)))) (by rw [Nat.zero_add]; exact sG_sG) ?_
                refine v_aload_n C dX6_copies_161 rfl ?_
                refine v_iconst (v := nI 3) C dX6_copies_162 (by decide) ?_
                refine v_iload_n C dX6_copies_163 rfl ?_
                refine v_iload C dX6_copies_164 rfl ?_
                first | refine v_iaddN C dX6_copies_166 ?_ | refine v_iadd C dX6_copies_166 ?_
                refine v_callVv C (c_X6_notes hl (g := sG (sG g 5 hd) 1 (upd f (to_ + i) ((fun i => valM (copD n to_ len m) (fr + i)) i))) (m := byteM y (to_ + i) ((fun i => valM (copD n to_ len m) (fr + i)) i)) (k := 3) (Row_byte hRy (by omega)) (EvOK.of hyE rfl) (by decide) (by omega)) ym_X6_notes ml_X6_278 emb_id_qS rfl rfl rfl rfl rfl dX6_copies_167 (Nat.le_of_ble_eq_true rfl) (Nat.le_of_ble_eq_true rfl) (Nat.le_of_ble_eq_true rfl) (Nat.le_of_ble_eq_true rfl) (fun _ _ hu => hu.elim) (fun r u hu => ?_)
                obtain ⟨f3, hu, hR3⟩ := hu
                subst u
                rw [show byteM y (to_ + i) ((fun i => valM (copD n to_ len m) (fr + i)) i) 1 (to_ + i) = (fun i => valM (copD n to_ len m) (fr + i)) i from upd_s, note_cp] at hR3
                refine V.stt (g2 := (sG (sG g 5 hd) 1 f3)) (sG_sG) ?_
                first | refine v_iinc1 C (lo2 := [some _, some _, some _, some _, some _, some _, none, some _]) dX6_copies_170 rfl rfl rfl ?_ | refine v_iinc C (lo2 := [some _, some _, some _, some _, some _, some _, none, some _]) dX6_copies_170 rfl rfl rfl rfl ?_
                refine v_goto C 124 dX6_copies_173 (by decide) ?_
                have hib : i < len := by omega
                rw [forG_s hib] at i4
                have hok := copA_ok (T := (rowT to_ (to_ + len - 1))) (fr := fr) (to_ := to_) (i := i) (c := (fun i => valM (copD n to_ len m) (fr + i))) hyI hyS hyE
                have hmu : len - (i + 1) < len - i := by omega
                first
                | (have hz : copA (rowT to_ (to_ + len - 1)) fr to_ (fun i => valM (copD n to_ len m) (fr + i)) i y = cpM (noteM (byteM y (to_ + i) ((fun i => valM (copD n to_ len m) (fr + i)) i)) (nI 3) (nI (to_ + i)) ((fun i => valM (copD n to_ len m) (fr + i)) i)) 3 := if_pos c140
                   exact ih124 (i + 1, copA (rowT to_ (to_ + len - 1)) fr to_ (fun i => valM (copD n to_ len m) (fr + i)) i y, f3) hmu ⟨by show i + 1 ≤ len; omega, hok.1, hok.2.1, hok.2.2.1, hok.2.2.2.trans hy5, (by show RowR (copA (rowT to_ (to_ + len - 1)) fr to_ (fun i => valM (copD n to_ len m) (fr + i)) i y) f3; rw [hz]; exact hR3), i4⟩)
                | (have hz : copA (rowT to_ (to_ + len - 1)) fr to_ (fun i => valM (copD n to_ len m) (fr + i)) i y = y := if_neg (by rw [c140]; exact Bool.false_ne_true)
                   exact ih124 (i + 1, copA (rowT to_ (to_ + len - 1)) fr to_ (fun i => valM (copD n to_ len m) (fr + i)) i y, f) hmu ⟨by show i + 1 ≤ len; omega, hok.1, hok.2.1, hok.2.2.1, hok.2.2.2.trans hy5, (by show RowR (copA (rowT to_ (to_ + len - 1)) fr to_ (fun i => valM (copD n to_ len m) (fr + i)) i y) f; rw [hz]; exact hRy), i4⟩)
          exact L124 (0, (drpM (rowT to_ (to_ + len - 1)) n (copD n to_ len m)), f) ⟨Nat.zero_le _, hr0.1.im hDI, hSep, hr0.1.1.2.2.2.2 hDE, (hr0.1.1.2.2.1.trans hd0.1.1.2.2.1).trans (k3 5 (by decide) (by decide) (by decide)), (by show RowR (drpM (rowT to_ (to_ + len - 1)) n (copD n to_ len m)) f; rw [← q4]; exact hRy), rfl⟩
        · refine v_aload_n C dX6_copies_109 rfl ?_
          refine v_iload C dX6_copies_110 rfl ?_
          refine v_callVv C (c_X6_drops hl (g := (sG (sG g 5 hd) 1 f)) (m := y) hRy hyE (by omega)) ym_X6_drops ml_X6_288 emb_id_qS rfl rfl rfl rfl rfl dX6_copies_112 (Nat.le_of_ble_eq_true rfl) (Nat.le_of_ble_eq_true rfl) (Nat.le_of_ble_eq_true rfl) (Nat.le_of_ble_eq_true rfl) (fun _ _ hu => hu.elim) (fun r u hu => ?_)
          obtain ⟨f3, hu, hR3⟩ := hu
          subst u
          refine V.stt (g2 := (sG (sG g 5 hd) 1 f3)) (sG_sG) ?_
          first | refine v_iinc1 C (lo2 := [some _, some _, some _, some _, some _, some _, none, some _]) dX6_copies_115 rfl rfl rfl ?_ | refine v_iinc C (lo2 := [some _, some _, some _, some _, some _, some _, none, some _]) dX6_copies_115 rfl rfl rfl rfl ?_
          refine v_goto C 102 dX6_copies_118 (by decide) ?_
          have hpb : p < to_ + len := by omega
          rw [forG_s hpb] at q4
          exact ih102 (p + 1, dropO y p, f3) (by show to_ + len - (p + 1) < to_ + len - p; omega) ⟨by show to_ ≤ p + 1; omega, by show p + 1 ≤ to_ + len; omega, (dropO_Dr (n := n)).1.2.2.2.2 hyE, hR3, q4⟩
      refine V.sub (lo2 := [some _, some _, some _, some _, some _, some _, none, some _]) ⟨rfl, rfl, rfl, rfl, rfl, rfl, rfl, trivial⟩ ?_
      exact L102 (to_, copD n to_ len m, f2) ⟨Nat.le_refl _, by show to_ ≤ to_ + len; omega, hDE, hR2, by rw [drp_row (a := to_) (b := to_ + len - 1) (by omega) (by omega), show to_ + len - 1 + 1 - to_ = to_ + len - to_ by omega]⟩
    · refine v_aload_n C dX6_copies_69 rfl ?_
      refine v_getr C fl_X6_27 or_qS_0_22 dX6_copies_70 ?_
      refine v_iload C dX6_copies_73 rfl ?_
      refine v_aload_n C dX6_copies_75 rfl ?_
      refine v_iload_n C dX6_copies_76 rfl ?_
      refine v_iload C dX6_copies_77 rfl ?_
      first | refine v_iaddN C dX6_copies_79 ?_ | refine v_iadd C dX6_copies_79 ?_
      refine v_callVi C (c_X6_valueOf hl (g := sG (sG g 1 f1) 5 hd) (m := cop0 to_ len m) (n := n) hR1 k1 (by omega)) ym_X6_valueOf ml_X6_226 emb_id_qS rfl rfl rfl rfl rfl dX6_copies_80 (Nat.le_of_ble_eq_true rfl) (Nat.le_of_ble_eq_true rfl) (Nat.le_of_ble_eq_true rfl) (Nat.le_of_ble_eq_true rfl) (fun _ _ hu => hu.elim) (fun r u hu => ?_)
      obtain ⟨rfl, hu⟩ := hu
      subst u
      rw [show valM (cop0 to_ len m) (fr + i) = valM m (fr + i) from valM_of (k3 2 (by decide) (by decide) (by decide)) (k3 1 (by decide) (by decide) (by decide)) _]
      refine V.stt (g2 := (sG (sG g 1 f1) 5 hd)) (rfl) ?_
      refine v_iast C ar_qS_5 (by decide) _ ?_ rfl dX6_copies_83 ?_
      · omega
      refine V.stt (g2 := (sG (sG g 1 f1) 5 (upd hd i (valM m (fr + i))))) (sG_sG) ?_
      first | refine v_iinc1 C (lo2 := [some _, some _, some _, some _, some _, some _, some _, none]) dX6_copies_84 rfl rfl rfl ?_ | refine v_iinc C (lo2 := [some _, some _, some _, some _, some _, some _, some _, none]) dX6_copies_84 rfl rfl rfl rfl ?_
      refine v_goto C 63 dX6_copies_87 (by decide) ?_
      exact ih63 (i + 1, upd hd i (valM m (fr + i))) (by show len - (i + 1) < len - i; omega) ⟨by show i + 1 ≤ len; omega, fun j hj => by
        by_cases z : j = i
        · subst z; show upd hd j (valM m (fr + j)) j = _; rw [upd_s]; exact hval j (by omega)
        · show upd hd i (valM m (fr + i)) j = _; rw [upd_o z]; exact hhd j (by have hj : j < i + 1 := hj; omega)⟩
  have H := L63 (0, g 5) ⟨Nat.zero_le _, fun j hj => absurd hj (Nat.not_lt_zero j)⟩
  try dsimp only at H
  rw [show sG (sG g 1 f1) 5 (g 5) = sG g 1 f1 from sG_id rfl] at H
  exact H
/-- a row put into a store, its first t numbers -/
def kpP (s f : Nat → Int32) (j t : Nat) : Nat → Int32 := fun i => if 640 * j ≤ i ∧ i < 640 * j + t then f (i - 640 * j) else s i
theorem kpP_0 {s f : Nat → Int32} {j : Nat} : kpP s f j 0 = s := funext fun i => if_neg (by omega)
theorem kpP_s {s f : Nat → Int32} {j t : Nat} : upd (kpP s f j t) (640 * j + t) (f t) = kpP s f j (t + 1) := by
  funext i
  unfold upd kpP
  by_cases e : i = 640 * j + t
  · rw [if_pos e, if_pos (by omega)]
    exact congrArg f (by omega)
  · rw [if_neg e]
    by_cases c : 640 * j ≤ i ∧ i < 640 * j + t
    · rw [if_pos c, if_pos (by omega)]
    · rw [if_neg c, if_neg (by omega)]
theorem kpP_in {s f : Nat → Int32} {j k : Nat} (h : k < 640) : kpP s f j 640 (640 * j + k) = f k := by
  unfold kpP
  rw [if_pos (by omega)]
  exact congrArg f (by omega)
theorem kpP_out {s f : Nat → Int32} {j i : Nat} (h : i < 640 * j ∨ 640 * j + 640 ≤ i) : kpP s f j 640 i = s i := if_neg (by omega)
/-- the stores moved down by one from the first change on, t numbers of them -/
def shP (s : Nat → Int32) (t : Nat) : Nat → Int32 := fun i => if 640 ≤ i ∧ i < t then s (i + 640) else s i
theorem shP_0 {s : Nat → Int32} : shP s 640 = s := funext fun i => if_neg (by omega)
theorem shP_s {s : Nat → Int32} {t : Nat} (h : 640 ≤ t) : upd (shP s t) t (shP s t (t + 640)) = shP s (t + 1) := by
  funext i
  unfold upd shP
  rw [if_neg (show ¬ (640 ≤ t + 640 ∧ t + 640 < t) by omega)]
  by_cases e : i = t
  · rw [if_pos e, if_pos (by omega), e]
  · rw [if_neg e]
    by_cases c : 640 ≤ i ∧ i < t
    · rw [if_pos c, if_pos (by omega)]
    · rw [if_neg c, if_neg (by omega)]
set_option maxHeartbeats 16000000 in
theorem c_X6_keeps {l : Launch} (hl : l.stackTraces = false) {κ : Kp} {h : Nat → Nat} {g : G} {j : Nat} (hj : j ≤ 10) : Ct SS MM l κ yX6_keeps cX6_keeps 3 none 0 0 0 [.ref (h 0), .int (nI j)] (qS κ h) g rv (fun _ u => u = sG g 2 (kpP (g 2) (g 1) j 640)) (fun _ _ => False) := by
  refine Ct.of (own := RX6) (by decide) rfl hl (by intro v hv; simp only [List.mem_cons, List.not_mem_nil, or_false] at hv; first | (rcases hv with rfl | rfl | rfl | rfl | rfl | rfl <;> rfl) | (rcases hv with rfl | rfl | rfl | rfl | rfl <;> rfl) | (rcases hv with rfl | rfl | rfl | rfl <;> rfl) | (rcases hv with rfl | rfl | rfl <;> rfl) | (rcases hv with rfl | rfl <;> rfl) | (subst hv; rfl) | exact hv.elim) (Nat.le_of_ble_eq_true rfl) (fun X hxl hxk C F N => ?_)
  subst hxl hxk
  show V X (qS (xK X) h) 0 [some (.ref (h 0)), some (.int (nI j)), none] [] g 0 0
  refine v_iconst (v := nI 0) C dX6_keeps_0 (by decide) ?_
  refine v_istore_n C (lo2 := [some _, some _, some _]) dX6_keeps_1 rfl (Nat.le_of_ble_eq_true rfl) rfl ?_
  have L2 : ∀ (t : Nat), (fun t => t ≤ 640) t → (fun t : Nat => V X (qS (xK X) h) 2 [some (.ref (h 0)), some (.int (nI j)), some (.int (nI t))] [] (sG g 2 (kpP (g 2) (g 1) j t)) 0 0) t := by
    refine v_ind (fun t : Nat => 640 - t) ?_
    rintro t ih2 hI2
    try dsimp only at hI2 ⊢
    refine v_iload_n C dX6_keeps_2 rfl ?_
    refine v_sipush (v := nI 640) C dX6_keeps_3 (by decide) ?_
    first | refine v_icmp_geN C 33 dX6_keeps_6 (by decide) (by omega) (by omega) (fun c6 => ?_) (fun c6 => ?_) | refine v_icmp_ge C 33 dX6_keeps_6 (by decide) (fun c6 => ?_) (fun c6 => ?_)
    · have et : t = 640 := by omega
      subst et
      refine v_vret C F dX6_keeps_33 (Nat.le_of_ble_eq_true rfl) (Nat.le_of_ble_eq_true rfl) ?_
      first | exact rfl | exact ⟨rfl, rfl⟩
    · refine v_aload_n C dX6_keeps_9 rfl ?_
      refine v_getr C fl_X6_13 or_qS_0_4 dX6_keeps_10 ?_
      refine v_sipush (v := nI 640) C dX6_keeps_13 (by decide) ?_
      refine v_iload_n C dX6_keeps_16 rfl ?_
      first | refine v_imulN C dX6_keeps_17 ?_ | refine v_imul C dX6_keeps_17 ?_
      refine v_iload_n C dX6_keeps_18 rfl ?_
      first | refine v_iaddN C dX6_keeps_19 ?_ | refine v_iadd C dX6_keeps_19 ?_
      refine v_aload_n C dX6_keeps_20 rfl ?_
      refine v_getr C fl_X6_7 or_qS_0_3 dX6_keeps_21 ?_
      refine v_iload_n C dX6_keeps_24 rfl ?_
      refine v_iald C ar_qS_1 (by decide) _ ?_ rfl dX6_keeps_25 ?_
      · omega
      refine v_iast C ar_qS_2 (by decide) _ ?_ rfl dX6_keeps_26 ?_
      · omega
      refine V.stt (g2 := (sG g 2 (kpP (g 2) (g 1) j (t + 1)))) (by rw [← kpP_s]; exact sG_sG) ?_
      first | refine v_iinc1 C (lo2 := [some _, some _, some _]) dX6_keeps_27 rfl rfl rfl ?_ | refine v_iinc C (lo2 := [some _, some _, some _]) dX6_keeps_27 rfl rfl rfl rfl ?_
      refine v_goto C 2 dX6_keeps_30 (by decide) ?_
      exact ih2 (t + 1) (by show 640 - (t + 1) < 640 - t; omega) (by show t + 1 ≤ 640; omega)
  have H := L2 0 (by show 0 ≤ 640; omega)
  try dsimp only at H
  rw [kpP_0, sG_id rfl] at H
  exact H
set_option maxHeartbeats 16000000 in
theorem c_X6_fetches {l : Launch} (hl : l.stackTraces = false) {κ : Kp} {h : Nat → Nat} {g : G} {j : Nat} (hj : j ≤ 10) : Ct SS MM l κ yX6_fetches cX6_fetches 3 none 0 0 0 [.ref (h 0), .int (nI j)] (qS κ h) g rv (fun _ u => u = sG g 1 (mix 640 (fun k => g 2 (640 * j + k)) (g 1))) (fun _ _ => False) := by
  refine Ct.of (own := RX6) (by decide) rfl hl (by intro v hv; simp only [List.mem_cons, List.not_mem_nil, or_false] at hv; first | (rcases hv with rfl | rfl | rfl | rfl | rfl | rfl <;> rfl) | (rcases hv with rfl | rfl | rfl | rfl | rfl <;> rfl) | (rcases hv with rfl | rfl | rfl | rfl <;> rfl) | (rcases hv with rfl | rfl | rfl <;> rfl) | (rcases hv with rfl | rfl <;> rfl) | (subst hv; rfl) | exact hv.elim) (Nat.le_of_ble_eq_true rfl) (fun X hxl hxk C F N => ?_)
  subst hxl hxk
  show V X (qS (xK X) h) 0 [some (.ref (h 0)), some (.int (nI j)), none] [] g 0 0
  refine v_iconst (v := nI 0) C dX6_fetches_0 (by decide) ?_
  refine v_istore_n C (lo2 := [some _, some _, some _]) dX6_fetches_1 rfl (Nat.le_of_ble_eq_true rfl) rfl ?_
  have L2 : ∀ (t : Nat), (fun t => t ≤ 640) t → (fun t : Nat => V X (qS (xK X) h) 2 [some (.ref (h 0)), some (.int (nI j)), some (.int (nI t))] [] (sG g 1 (mix t (fun k => g 2 (640 * j + k)) (g 1))) 0 0) t := by
    refine v_ind (fun t : Nat => 640 - t) ?_
    rintro t ih2 hI2
    try dsimp only at hI2 ⊢
    refine v_iload_n C dX6_fetches_2 rfl ?_
    refine v_sipush (v := nI 640) C dX6_fetches_3 (by decide) ?_
    first | refine v_icmp_geN C 33 dX6_fetches_6 (by decide) (by omega) (by omega) (fun c6 => ?_) (fun c6 => ?_) | refine v_icmp_ge C 33 dX6_fetches_6 (by decide) (fun c6 => ?_) (fun c6 => ?_)
    · have et : t = 640 := by omega
      subst et
      refine v_vret C F dX6_fetches_33 (Nat.le_of_ble_eq_true rfl) (Nat.le_of_ble_eq_true rfl) ?_
      first | exact rfl | exact ⟨rfl, rfl⟩
    · refine v_aload_n C dX6_fetches_9 rfl ?_
      refine v_getr C fl_X6_7 or_qS_0_3 dX6_fetches_10 ?_
      refine v_iload_n C dX6_fetches_13 rfl ?_
      refine v_aload_n C dX6_fetches_14 rfl ?_
      refine v_getr C fl_X6_13 or_qS_0_4 dX6_fetches_15 ?_
      refine v_sipush (v := nI 640) C dX6_fetches_18 (by decide) ?_
      refine v_iload_n C dX6_fetches_21 rfl ?_
      first | refine v_imulN C dX6_fetches_22 ?_ | refine v_imul C dX6_fetches_22 ?_
      refine v_iload_n C dX6_fetches_23 rfl ?_
      first | refine v_iaddN C dX6_fetches_24 ?_ | refine v_iadd C dX6_fetches_24 ?_
      refine v_iald C ar_qS_2 (by decide) _ ?_ rfl dX6_fetches_25 ?_
      · omega
      refine v_iast C ar_qS_1 (by decide) _ ?_ rfl dX6_fetches_26 ?_
      · omega
      refine V.stt (g2 := (sG g 1 (mix (t + 1) (fun k => g 2 (640 * j + k)) (g 1)))) (by rw [← mix_s]; exact sG_sG) ?_
      first | refine v_iinc1 C (lo2 := [some _, some _, some _]) dX6_fetches_27 rfl rfl rfl ?_ | refine v_iinc C (lo2 := [some _, some _, some _]) dX6_fetches_27 rfl rfl rfl rfl ?_
      refine v_goto C 2 dX6_fetches_30 (by decide) ?_
      exact ih2 (t + 1) (by show 640 - (t + 1) < 640 - t; omega) (by show t + 1 ≤ 640; omega)
  have H := L2 0 (by show 0 ≤ 640; omega)
  try dsimp only at H
  rw [mix_0, sG_id rfl] at H
  exact H
/-- the changes that can come back, the last one first -/
def QHs (L : List Mg) (g : G) : Prop := g 0 5 = nI L.length ∧ L.length ≤ 8 ∧ ∀ i (hi : i < L.length), RowR L[i] (fun k => g 2 (640 * (L.length - i) + k))
def kaN (c : Nat) : Nat := if c = 8 then 7 else c
def kaS (s f : Nat → Int32) (c : Nat) : Nat → Int32 := kpP (if c = 8 then shP s 5120 else s) f (1 + kaN c) 640
theorem kaS_ok {L : List Mg} {m : Mg} {g u : G} (hH : QHs L g) (hR : RowR m (g 1)) (hE : EvOK m) (hEL : ∀ x ∈ L, EvOK x) (h5 : u 0 5 = nI (kaN L.length + 1)) (h2 : u 2 = kaS (g 2) (g 1) L.length) : QHs ((m :: L).take 8) u := by
  obtain ⟨q1, q2, q3⟩ := hH
  have hlen : ((m :: L).take 8).length = kaN L.length + 1 := by
    rw [List.length_take, List.length_cons]
    unfold kaN
    split <;> omega
  refine ⟨by rw [h5, hlen], by rw [hlen]; unfold kaN; split <;> omega, fun i hi => ?_⟩
  rw [hlen] at hi ⊢
  rw [List.getElem_take]
  have hk7 : kaN L.length ≤ 7 := by unfold kaN; split <;> omega
  cases i with
  | zero =>
    refine RowR.mono hR (fun k hk => ?_) hE
    show u 2 (640 * (kaN L.length + 1 - 0) + k) = g 1 k
    rw [h2, Nat.sub_zero, Nat.add_comm (kaN L.length) 1]
    exact kpP_in hk
  | succ i =>
    have hiL : i < L.length := by
      have : kaN L.length ≤ L.length := by unfold kaN; split <;> omega
      omega
    refine RowR.mono (m := L[i]) (q3 i hiL) (fun k hk => ?_) (hEL _ (List.getElem_mem hiL))
    show u 2 (640 * (kaN L.length + 1 - (i + 1)) + k) = g 2 (640 * (L.length - i) + k)
    rw [h2]
    unfold kaS
    rw [kpP_out (by omega)]
    unfold kaN at hi hk7 ⊢
    by_cases c : L.length = 8
    · rw [if_pos c] at hi
      rw [if_pos c, if_pos c]
      unfold shP
      rw [if_pos (by omega)]
      exact congrArg (g 2) (by omega)
    · rw [if_neg c] at hi
      rw [if_neg c, if_neg c]
      exact congrArg (g 2) (by omega)
set_option maxHeartbeats 16000000 in
theorem c_X6_keepsAll {l : Launch} (hl : l.stackTraces = false) {κ : Kp} {h : Nat → Nat} {g : G} {c : Nat} (hc : g 0 5 = nI c) (hc8 : c ≤ 8) : Ct SS MM l κ yX6_keepsAll cX6_keepsAll 2 none 1 0 0 [.ref (h 0)] (qS κ h) g rv (fun _ u => u = sG (sG g 0 (upd (g 0) 5 (nI (kaN c + 1)))) 2 (kaS (g 2) (g 1) c)) (fun _ _ => False) := by
  refine Ct.of (own := RX6) (by decide) rfl hl (by intro v hv; simp only [List.mem_cons, List.not_mem_nil, or_false] at hv; first | (rcases hv with rfl | rfl | rfl | rfl | rfl | rfl <;> rfl) | (rcases hv with rfl | rfl | rfl | rfl | rfl <;> rfl) | (rcases hv with rfl | rfl | rfl | rfl <;> rfl) | (rcases hv with rfl | rfl | rfl <;> rfl) | (rcases hv with rfl | rfl <;> rfl) | (subst hv; rfl) | exact hv.elim) (Nat.le_of_ble_eq_true rfl) (fun X hxl hxk C F N => ?_)
  subst hxl hxk
  show V X (qS (xK X) h) 0 [some (.ref (h 0)), none] [] g 0 0
  refine v_aload_n C dX6_keepsAll_0 rfl ?_
  refine v_getiQ (x := nI c) C fl_X6_204 oi_qS_0_5 (hc) dX6_keepsAll_1 ?_
  refine v_bipush (v := nI 8) C dX6_keepsAll_4 (by decide) ?_
  have J52 : ∀ g1 : G, g1 = sG (sG g 0 (upd (g 0) 5 (nI (kaN c)))) 2 (if c = 8 then shP (g 2) 5120 else g 2) → V X (qS (xK X) h) 52 [some (.ref (h 0)), none] [] g1 0 0 := by
    intro g1 hg1
    have hk5 : g1 0 5 = nI (kaN c) := by rw [hg1]; rfl
    have hkn : kaN c ≤ 8 := by unfold kaN; split <;> omega
    refine v_aload_n C dX6_keepsAll_52 rfl ?_
    refine v_iconst (v := nI 1) C dX6_keepsAll_53 (by decide) ?_
    refine v_aload_n C dX6_keepsAll_54 rfl ?_
    refine v_getiQ (x := nI (kaN c)) C fl_X6_204 oi_qS_0_5 (hk5) dX6_keepsAll_55 ?_
    first | refine v_iaddN C dX6_keepsAll_58 ?_ | refine v_iadd C dX6_keepsAll_58 ?_
    refine v_callVv C (c_X6_keeps hl (g := g1) (j := 1 + kaN c) (by omega)) ym_X6_keeps ml_X6_195 emb_id_qS rfl rfl rfl rfl rfl dX6_keepsAll_59 (Nat.le_of_ble_eq_true rfl) (Nat.le_of_ble_eq_true rfl) (Nat.le_of_ble_eq_true rfl) (Nat.le_of_ble_eq_true rfl) (fun _ _ hu => hu.elim) (fun r u hu => ?_)
    subst u
    refine v_aload_n C dX6_keepsAll_62 rfl ?_
    refine v_dup C dX6_keepsAll_63 rfl ?_
    refine v_getiQ (x := nI (kaN c)) C fl_X6_204 oi_qS_0_5 (hk5) dX6_keepsAll_64 ?_
    refine v_iconst (v := nI 1) C dX6_keepsAll_67 (by decide) ?_
    first | refine v_iaddN C dX6_keepsAll_68 ?_ | refine v_iadd C dX6_keepsAll_68 ?_
    refine v_puti C fl_X6_204 fw_X6_5 oi_qS_0_5 ⟨rfl, rfl⟩ dX6_keepsAll_69 ?_
    refine v_vret C F dX6_keepsAll_72 (Nat.le_of_ble_eq_true rfl) (Nat.le_of_ble_eq_true rfl) ?_
    subst hg1
    unfold kaS
    rw [show ∀ z y : Nat → Int32, sG (sG (sG (sG g 0 z) 2 y) 2 (kpP ((sG (sG g 0 z) 2 y) 2) ((sG (sG g 0 z) 2 y) 1) (1 + kaN c) 640)) 0 (upd (sG (sG (sG g 0 z) 2 y) 2 (kpP ((sG (sG g 0 z) 2 y) 2) ((sG (sG g 0 z) 2 y) 1) (1 + kaN c) 640) 0) 5 (nI (kaN c + 1))) = sG (sG g 0 (upd z 5 (nI (kaN c + 1)))) 2 (kpP y (g 1) (1 + kaN c) 640) from fun z y => by
      rw [show (sG (sG g 0 z) 2 y) 2 = y from rfl, show (sG (sG g 0 z) 2 y) 1 = g 1 from rfl, show sG (sG (sG g 0 z) 2 y) 2 (kpP y (g 1) (1 + kaN c) 640) 0 = z from rfl, sG_sG, sG_comm (a := 2) (b := 0) (by decide), sG_sG], upd_upd]
  first | refine v_icmp_neN C 52 dX6_keepsAll_6 (by decide) (by omega) (by omega) (fun c6 => ?_) (fun c6 => ?_) | refine v_icmp_ne C 52 dX6_keepsAll_6 (by decide) (fun c6 => ?_) (fun c6 => ?_)
  · refine V.sub (lo2 := [some _, none]) ⟨rfl, trivial⟩ ?_
    refine J52 _ ?_
    first
    | (unfold kaN; rw [if_neg c6, if_neg c6, ← hc, sG_id (g := g) (c := 0) (funext fun i => by unfold upd; split <;> simp_all), sG_id rfl])
    | (subst c6; unfold kaN; rw [if_pos rfl, if_pos rfl, sG_comm (a := 2) (b := 0) (by decide)]; rfl)
  · refine v_sipush (v := nI 640) C dX6_keepsAll_9 (by decide) ?_
    refine v_istore_n C (lo2 := [some _, some _]) dX6_keepsAll_12 rfl (Nat.le_of_ble_eq_true rfl) rfl ?_
    have L13 : ∀ (t : Nat), (fun t => 640 ≤ t ∧ t ≤ 5120) t → (fun t : Nat => V X (qS (xK X) h) 13 [some (.ref (h 0)), some (.int (nI t))] [] (sG g 2 (shP (g 2) t)) 0 0) t := by
      refine v_ind (fun t : Nat => 5120 - t) ?_
      rintro t ih13 hI13
      try dsimp only at hI13 ⊢
      obtain ⟨i0, i1⟩ := hI13
      refine v_iload_n C dX6_keepsAll_13 rfl ?_
      refine v_sipush (v := nI 5120) C dX6_keepsAll_14 (by decide) ?_
      first | refine v_icmp_geN C 42 dX6_keepsAll_17 (by decide) (by omega) (by omega) (fun c17 => ?_) (fun c17 => ?_) | refine v_icmp_ge C 42 dX6_keepsAll_17 (by decide) (fun c17 => ?_) (fun c17 => ?_)
      · have et : t = 5120 := by omega
        subst et
        refine v_aload_n C dX6_keepsAll_42 rfl ?_
        refine v_dup C dX6_keepsAll_43 rfl ?_
        refine v_getiQ (x := nI c) C fl_X6_204 oi_qS_0_5 (hc) dX6_keepsAll_44 ?_
        refine v_iconst (v := nI 1) C dX6_keepsAll_47 (by decide) ?_
        first | refine v_isubN C dX6_keepsAll_48 (by omega) ?_ | refine v_isub C dX6_keepsAll_48 ?_
        refine v_puti C fl_X6_204 fw_X6_5 oi_qS_0_5 ⟨rfl, rfl⟩ dX6_keepsAll_49 ?_
        refine V.sub (lo2 := [some _, none]) ⟨rfl, trivial⟩ ?_
        refine J52 _ ?_
        first
        | (unfold kaN; rw [if_neg c6, if_neg c6, ← hc, sG_id (g := g) (c := 0) (funext fun i => by unfold upd; split <;> simp_all), sG_id rfl])
        | (subst c6; unfold kaN; rw [if_pos rfl, if_pos rfl, sG_comm (a := 2) (b := 0) (by decide)]; rfl)
      · refine v_aload_n C dX6_keepsAll_20 rfl ?_
        refine v_getr C fl_X6_13 or_qS_0_4 dX6_keepsAll_21 ?_
        refine v_iload_n C dX6_keepsAll_24 rfl ?_
        refine v_aload_n C dX6_keepsAll_25 rfl ?_
        refine v_getr C fl_X6_13 or_qS_0_4 dX6_keepsAll_26 ?_
        refine v_iload_n C dX6_keepsAll_29 rfl ?_
        refine v_sipush (v := nI 640) C dX6_keepsAll_30 (by decide) ?_
        first | refine v_iaddN C dX6_keepsAll_33 ?_ | refine v_iadd C dX6_keepsAll_33 ?_
        refine v_iald C ar_qS_2 (by decide) _ ?_ rfl dX6_keepsAll_34 ?_
        · omega
        refine v_iast C ar_qS_2 (by decide) _ ?_ rfl dX6_keepsAll_35 ?_
        · omega
        refine V.stt (g2 := (sG g 2 (shP (g 2) (t + 1)))) (by rw [sG_sG, sG_at, shP_s i0]) ?_
        first | refine v_iinc1 C (lo2 := [some _, some _]) dX6_keepsAll_36 rfl rfl rfl ?_ | refine v_iinc C (lo2 := [some _, some _]) dX6_keepsAll_36 rfl rfl rfl rfl ?_
        refine v_goto C 13 dX6_keepsAll_39 (by decide) ?_
        exact ih13 (t + 1) (by show 5120 - (t + 1) < 5120 - t; omega) ⟨by omega, by omega⟩
    have H := L13 640 ⟨Nat.le_refl _, by omega⟩
    try dsimp only at H
    rw [shP_0, sG_id rfl] at H
    exact H
