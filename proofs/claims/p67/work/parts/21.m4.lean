set_option maxHeartbeats 4000000 in
theorem c_X0_rankOf {l : Launch} (hl : l.stackTraces = false) {κ : Kp} {h : Nat → Nat} {s : G} {m : Mg} {p n : Nat} {pol : Int32} (h96 : n ≤ 96) (hp : p < n) (hd : s 3 p = nI (hopsM m p)) (hh : hopsM m p < 96) : Ct SS MM l κ yX0_rankOf cX0_rankOf 3 (some FieldType.int) 0 0 0 [.ref (h 0), .int (nI p), .int pol] (eS κ h) (s, m) ri (fun r u => r.toInt = rkM m pol p ∧ u = (s, m)) (fun _ _ => False) := by
  refine Ct.of (own := RX0) (by decide) rfl hl (by intro v hv; simp only [List.mem_cons, List.not_mem_nil, or_false] at hv; first | (rcases hv with rfl | rfl | rfl | rfl | rfl | rfl <;> rfl) | (rcases hv with rfl | rfl | rfl | rfl | rfl <;> rfl) | (rcases hv with rfl | rfl | rfl | rfl <;> rfl) | (rcases hv with rfl | rfl | rfl <;> rfl) | (rcases hv with rfl | rfl <;> rfl) | (subst hv; rfl) | exact hv.elim) (Nat.le_of_ble_eq_true rfl) (fun X hxl hxk C F N => ?_)
  subst hxl hxk
  show V X (eS (xK X) h) 0 [some (.ref (h 0)), some (.int (nI p)), some (.int pol)] [] (s, m) 0 0
  refine v_iload_n C dX0_rankOf_0 rfl ?_
  rcases pol_cases pol with rfl | rfl | rfl | rfl | ho
  · refine v_tableIn C 32 (off := 31) dX0_rankOf_1 (by decide) (by decide) rfl (by decide) ?_
    refine v_aload_n C dX0_rankOf_32 rfl ?_
    refine v_getr C fl_X0_12 or_eS_0_0 dX0_rankOf_33 ?_
    refine v_getr C fl_X0_73 or_eS_4_2 dX0_rankOf_36 ?_
    refine v_iload_n C dX0_rankOf_39 rfl ?_
    refine v_ialdQ (x := m 3 p) C ar_eS_7 (by decide) _ (rfl) ?_ rfl dX0_rankOf_40 ?_
    · omega
    refine v_iret C F (by first | rfl | exact bI_nar _) dX0_rankOf_41 (Nat.le_of_ble_eq_true rfl) (Nat.le_of_ble_eq_true rfl) ?_
    exact ⟨rfl, rfl⟩
  · refine v_tableIn C 57 (off := 56) dX0_rankOf_1 (by decide) (by decide) rfl (by decide) ?_
    refine v_iconst (v := nI 0) C dX0_rankOf_57 (by decide) ?_
    refine v_iret C F (by first | rfl | exact bI_nar _) dX0_rankOf_58 (Nat.le_of_ble_eq_true rfl) (Nat.le_of_ble_eq_true rfl) ?_
    refine ⟨?_, rfl⟩
    rw [show (nI 0).toInt = 0 by decide]
    first
    | rfl
    | (unfold rkM; rw [if_neg (fun z => by subst z; revert ho; decide), if_neg (fun z => by subst z; revert ho; decide), if_neg (fun z => by subst z; revert ho; decide)])
  · refine v_tableIn C 42 (off := 41) dX0_rankOf_1 (by decide) (by decide) rfl (by decide) ?_
    refine v_aload_n C dX0_rankOf_42 rfl ?_
    refine v_getr C fl_X0_26 or_eS_0_3 dX0_rankOf_43 ?_
    refine v_iload_n C dX0_rankOf_46 rfl ?_
    refine v_ialdQ (x := nI (hopsM m p)) C ar_eS_3 (by decide) _ (hd) ?_ rfl dX0_rankOf_47 ?_
    · omega
    refine v_ineg C dX0_rankOf_48 ?_
    refine v_iret C F (by first | rfl | exact bI_nar _) dX0_rankOf_49 (Nat.le_of_ble_eq_true rfl) (Nat.le_of_ble_eq_true rfl) ?_
    exact ⟨nI_neg_toInt (by omega), rfl⟩
  · refine v_tableIn C 50 (off := 49) dX0_rankOf_1 (by decide) (by decide) rfl (by decide) ?_
    refine v_aload_n C dX0_rankOf_50 rfl ?_
    refine v_getr C fl_X0_26 or_eS_0_3 dX0_rankOf_51 ?_
    refine v_iload_n C dX0_rankOf_54 rfl ?_
    refine v_ialdQ (x := nI (hopsM m p)) C ar_eS_3 (by decide) _ (hd) ?_ rfl dX0_rankOf_55 ?_
    · omega
    refine v_iret C F (by first | rfl | exact bI_nar _) dX0_rankOf_56 (Nat.le_of_ble_eq_true rfl) (Nat.le_of_ble_eq_true rfl) ?_
    exact ⟨nI_toInt (by omega), rfl⟩
  · refine v_tableOut C 57 dX0_rankOf_1 ho (by decide) ?_
    refine v_iconst (v := nI 0) C dX0_rankOf_57 (by decide) ?_
    refine v_iret C F (by first | rfl | exact bI_nar _) dX0_rankOf_58 (Nat.le_of_ble_eq_true rfl) (Nat.le_of_ble_eq_true rfl) ?_
    refine ⟨?_, rfl⟩
    rw [show (nI 0).toInt = 0 by decide]
    first
    | rfl
    | (unfold rkM; rw [if_neg (fun z => by subst z; revert ho; decide), if_neg (fun z => by subst z; revert ho; decide), if_neg (fun z => by subst z; revert ho; decide)])
set_option maxHeartbeats 4000000 in
theorem c_X0_placeFor {l : Launch} (hl : l.stackTraces = false) {κ : Kp} {h : Nat → Nat} {s : G} {m : Mg} {n : Nat} {pol : Int32} (hI : IM m n) : Ct SS MM l κ yX0_placeFor cX0_placeFor 6 (some FieldType.int) 1 0 0 [.ref (h 0), .int pol] (eS κ h) (s, m) ri (fun r u => r = oN (nextM m n pol) ∧ ∃ s2, u = (s2, m)) (fun _ _ => False) := by
  refine Ct.of (own := RX0) (by decide) rfl hl (by intro v hv; simp only [List.mem_cons, List.not_mem_nil, or_false] at hv; first | (rcases hv with rfl | rfl | rfl | rfl | rfl | rfl <;> rfl) | (rcases hv with rfl | rfl | rfl | rfl | rfl <;> rfl) | (rcases hv with rfl | rfl | rfl | rfl <;> rfl) | (rcases hv with rfl | rfl | rfl <;> rfl) | (rcases hv with rfl | rfl <;> rfl) | (subst hv; rfl) | exact hv.elim) (Nat.le_of_ble_eq_true rfl) (fun X hxl hxk C F N => ?_)
  subst hxl hxk
  show V X (eS (xK X) h) 0 [some (.ref (h 0)), some (.int pol), none, none, none, none] [] (s, m) 0 0
  have h96 := hI.2.1
  have hn := hI.1
  have hh : ∀ p, p < n → hopsM m p < 96 := fun p hp => Nat.lt_of_lt_of_le (hops_lt hI hp) h96
  refine v_aload_n C dX0_placeFor_0 rfl ?_
  refine v_callVv C (c_X0_measureDepths hl hI) ym_X0_measureDepths ml_X0_114 emb_id_eS rfl rfl rfl rfl rfl dX0_placeFor_1 (Nat.le_of_ble_eq_true rfl) (Nat.le_of_ble_eq_true rfl) (Nat.le_of_ble_eq_true rfl) (Nat.le_of_ble_eq_true rfl) (fun _ _ hu => hu.elim) (fun r u hu => ?_)
  obtain ⟨d, hu, hd⟩ := hu
  subst u
  refine v_iconst (v := (-1)) C dX0_placeFor_4 (by decide) ?_
  refine v_istore_n C (lo2 := [some _, some _, some _, none, none, none]) dX0_placeFor_5 rfl (Nat.le_of_ble_eq_true rfl) rfl ?_
  refine v_iconst (v := nI 0) C dX0_placeFor_6 (by decide) ?_
  refine v_istore_n C (lo2 := [some _, some _, some _, some _, none, none]) dX0_placeFor_7 rfl (Nat.le_of_ble_eq_true rfl) rfl ?_
  refine v_iconst (v := nI 0) C dX0_placeFor_8 (by decide) ?_
  refine v_istore C (lo2 := [some _, some _, some _, some _, some _, none]) dX0_placeFor_9 rfl (Nat.le_of_ble_eq_true rfl) rfl ?_
  have L11 : ∀ (t : Nat × Option Nat × Int32), (fun t => forG (nstep m pol) t.1 (n - t.1) t.2.1 = nextM m n pol ∧ (∀ q, t.2.1 = some q → q < t.1 ∧ t.2.2.toInt = rkM m pol q) ∧ t.1 ≤ n) t → (fun t : Nat × Option Nat × Int32 => V X (eS (xK X) h) 11 [some (.ref (h 0)), some (.int pol), some (.int (oN t.2.1)), some (.int t.2.2), some (.int (nI t.1)), none] [] (sG s 3 d, m) 0 0) t := by
    refine v_ind (fun t : Nat × Option Nat × Int32 => n - t.1) ?_
    rintro ⟨i, b, br⟩ ih11 hI11
    try dsimp only at hI11 ⊢
    obtain ⟨i1, i2, i4⟩ := hI11
    refine v_iload C dX0_placeFor_11 rfl ?_
    refine v_aload_n C dX0_placeFor_13 rfl ?_
    refine v_getr C fl_X0_12 or_eS_0_0 dX0_placeFor_14 ?_
    refine v_getiQ (x := nI n) C fl_X0_107 oi_eS_4_7 (hn) dX0_placeFor_17 ?_
    first | refine v_icmp_geN C 67 dX0_placeFor_20 (by decide) (by omega) (by omega) (fun c20 => ?_) (fun c20 => ?_) | refine v_icmp_ge C 67 dX0_placeFor_20 (by decide) (fun c20 => ?_) (fun c20 => ?_)
    · refine v_iload_n C dX0_placeFor_67 rfl ?_
      refine v_iret C F (by first | rfl | exact bI_nar _) dX0_placeFor_68 (Nat.le_of_ble_eq_true rfl) (Nat.le_of_ble_eq_true rfl) ?_
      rw [forG_0 (by omega)] at i1
      exact ⟨by rw [i1], _, rfl⟩
    · have hin : i < n := by omega
      refine v_aload_n C dX0_placeFor_23 rfl ?_
      refine v_getr C fl_X0_12 or_eS_0_0 dX0_placeFor_24 ?_
      refine v_iload C dX0_placeFor_27 rfl ?_
      refine v_callVi C (c_X2_owesN hl (n := n) ?_ ?_ ?_) ym_X2_owes ml_X0_103 emb_e_m rfl rfl rfl rfl rfl dX0_placeFor_29 (Nat.le_of_ble_eq_true rfl) (Nat.le_of_ble_eq_true rfl) (Nat.le_of_ble_eq_true rfl) (Nat.le_of_ble_eq_true rfl) (fun _ _ hu => hu.elim) (fun r u hu => ?_)
      · first | assumption | omega
      · first | assumption | omega
      · first | assumption | omega
      obtain ⟨rfl, hu⟩ := hu
      subst u
      refine v_if_eqB C 61 dX0_placeFor_32 (by decide) (fun c32 => ?_) (fun c32 => ?_)
      · first | refine v_iinc1 C (lo2 := [some _, some _, some _, some _, some _, none]) dX0_placeFor_61 rfl rfl rfl ?_ | refine v_iinc C (lo2 := [some _, some _, some _, some _, some _, none]) dX0_placeFor_61 rfl rfl rfl rfl ?_
        refine v_goto C 11 dX0_placeFor_64 (by decide) ?_
        have hib : i < n := by omega
        rw [forG_s hib] at i1
        have hmu : n - (i + 1) < n - i := by omega
        first
        | (have hz : nstep m pol i b = some i := by
             unfold nstep
             rw [c32, if_pos rfl]
             first
             | rw [hb]
             | (cases b with
                | none => rfl
                | some q => exact if_pos (by have := (i2 q rfl).2; omega))
           rw [hz] at i1
           exact ih11 (i + 1, some i, r) hmu ⟨i1, (fun q hq => by cases hq; exact ⟨by show i < i + 1; omega, hr⟩), by show i + 1 ≤ n; omega⟩)
        | (have hz : nstep m pol i b = b := by
             unfold nstep
             first
             | (rw [c32]; rfl)
             | (rw [c32, if_pos rfl]
                cases b with
                | none => exact absurd rfl c46
                | some q => exact if_neg (by have := (i2 q rfl).2; omega))
           rw [hz] at i1
           exact ih11 (i + 1, b, br) hmu ⟨i1, fun q hq => ⟨by have := (i2 q hq).1; show q < i + 1; omega, (i2 q hq).2⟩, by show i + 1 ≤ n; omega⟩)
      · refine v_aload_n C dX0_placeFor_35 rfl ?_
        refine v_iload C dX0_placeFor_36 rfl ?_
        refine v_iload_n C dX0_placeFor_38 rfl ?_
        refine v_callVi C (c_X0_rankOf hl (n := n) h96 hin (hd i hin) (hh i hin)) ym_X0_rankOf ml_X0_117 emb_id_eS rfl rfl rfl rfl rfl dX0_placeFor_39 (Nat.le_of_ble_eq_true rfl) (Nat.le_of_ble_eq_true rfl) (Nat.le_of_ble_eq_true rfl) (Nat.le_of_ble_eq_true rfl) (fun _ _ hu => hu.elim) (fun r u hu => ?_)
        obtain ⟨hr, hu⟩ := hu
        subst u
        refine v_istore C (lo2 := [some _, some _, some _, some _, some _, some _]) dX0_placeFor_42 rfl (Nat.le_of_ble_eq_true rfl) rfl ?_
        refine v_iload_n C dX0_placeFor_44 rfl ?_
        refine v_iconst (v := (-1)) C dX0_placeFor_45 (by decide) ?_
        refine v_icmp_eq C 55 dX0_placeFor_46 (by decide) (fun c46 => ?_) (fun c46 => ?_)
        · have hb : b = none := oN_none c46 (fun q hq => by have := (i2 q hq).1; omega)
          refine v_iload C dX0_placeFor_55 rfl ?_
          refine v_istore_n C (lo2 := [some _, some _, some _, some _, some _, some _]) dX0_placeFor_57 rfl (Nat.le_of_ble_eq_true rfl) rfl ?_
          refine v_iload C dX0_placeFor_58 rfl ?_
          refine v_istore_n C (lo2 := [some _, some _, some _, some _, some _, some _]) dX0_placeFor_60 rfl (Nat.le_of_ble_eq_true rfl) rfl ?_
          first | refine v_iinc1 C (lo2 := [some _, some _, some _, some _, some _, some _]) dX0_placeFor_61 rfl rfl rfl ?_ | refine v_iinc C (lo2 := [some _, some _, some _, some _, some _, some _]) dX0_placeFor_61 rfl rfl rfl rfl ?_
          refine v_goto C 11 dX0_placeFor_64 (by decide) ?_
          refine V.sub (lo2 := [some _, some _, some _, some _, some _, none]) ⟨rfl, rfl, rfl, rfl, rfl, trivial⟩ ?_
          have hib : i < n := by omega
          rw [forG_s hib] at i1
          have hmu : n - (i + 1) < n - i := by omega
          first
          | (have hz : nstep m pol i b = some i := by
               unfold nstep
               rw [c32, if_pos rfl]
               first
               | rw [hb]
               | (cases b with
                  | none => rfl
                  | some q => exact if_pos (by have := (i2 q rfl).2; omega))
             rw [hz] at i1
             exact ih11 (i + 1, some i, r) hmu ⟨i1, (fun q hq => by cases hq; exact ⟨by show i < i + 1; omega, hr⟩), by show i + 1 ≤ n; omega⟩)
          | (have hz : nstep m pol i b = b := by
               unfold nstep
               first
               | (rw [c32]; rfl)
               | (rw [c32, if_pos rfl]
                  cases b with
                  | none => exact absurd rfl c46
                  | some q => exact if_neg (by have := (i2 q rfl).2; omega))
             rw [hz] at i1
             exact ih11 (i + 1, b, br) hmu ⟨i1, fun q hq => ⟨by have := (i2 q hq).1; show q < i + 1; omega, (i2 q hq).2⟩, by show i + 1 ≤ n; omega⟩)
        · refine v_iload C dX0_placeFor_49 rfl ?_
          refine v_iload_n C dX0_placeFor_51 rfl ?_
          refine v_icmp_ge C 61 dX0_placeFor_52 (by decide) (fun c52 => ?_) (fun c52 => ?_)
          · first | refine v_iinc1 C (lo2 := [some _, some _, some _, some _, some _, some _]) dX0_placeFor_61 rfl rfl rfl ?_ | refine v_iinc C (lo2 := [some _, some _, some _, some _, some _, some _]) dX0_placeFor_61 rfl rfl rfl rfl ?_
            refine v_goto C 11 dX0_placeFor_64 (by decide) ?_
            refine V.sub (lo2 := [some _, some _, some _, some _, some _, none]) ⟨rfl, rfl, rfl, rfl, rfl, trivial⟩ ?_
            have hib : i < n := by omega
            rw [forG_s hib] at i1
            have hmu : n - (i + 1) < n - i := by omega
            first
            | (have hz : nstep m pol i b = some i := by
                 unfold nstep
                 rw [c32, if_pos rfl]
                 first
                 | rw [hb]
                 | (cases b with
                    | none => rfl
                    | some q => exact if_pos (by have := (i2 q rfl).2; omega))
               rw [hz] at i1
               exact ih11 (i + 1, some i, r) hmu ⟨i1, (fun q hq => by cases hq; exact ⟨by show i < i + 1; omega, hr⟩), by show i + 1 ≤ n; omega⟩)
            | (have hz : nstep m pol i b = b := by
                 unfold nstep
                 first
                 | (rw [c32]; rfl)
                 | (rw [c32, if_pos rfl]
                    cases b with
                    | none => exact absurd rfl c46
                    | some q => exact if_neg (by have := (i2 q rfl).2; omega))
               rw [hz] at i1
               exact ih11 (i + 1, b, br) hmu ⟨i1, fun q hq => ⟨by have := (i2 q hq).1; show q < i + 1; omega, (i2 q hq).2⟩, by show i + 1 ≤ n; omega⟩)
          · refine v_iload C dX0_placeFor_55 rfl ?_
            refine v_istore_n C (lo2 := [some _, some _, some _, some _, some _, some _]) dX0_placeFor_57 rfl (Nat.le_of_ble_eq_true rfl) rfl ?_
            refine v_iload C dX0_placeFor_58 rfl ?_
            refine v_istore_n C (lo2 := [some _, some _, some _, some _, some _, some _]) dX0_placeFor_60 rfl (Nat.le_of_ble_eq_true rfl) rfl ?_
            first | refine v_iinc1 C (lo2 := [some _, some _, some _, some _, some _, some _]) dX0_placeFor_61 rfl rfl rfl ?_ | refine v_iinc C (lo2 := [some _, some _, some _, some _, some _, some _]) dX0_placeFor_61 rfl rfl rfl rfl ?_
            refine v_goto C 11 dX0_placeFor_64 (by decide) ?_
            refine V.sub (lo2 := [some _, some _, some _, some _, some _, none]) ⟨rfl, rfl, rfl, rfl, rfl, trivial⟩ ?_
            have hib : i < n := by omega
            rw [forG_s hib] at i1
            have hmu : n - (i + 1) < n - i := by omega
            first
            | (have hz : nstep m pol i b = some i := by
                 unfold nstep
                 rw [c32, if_pos rfl]
                 first
                 | rw [hb]
                 | (cases b with
                    | none => rfl
                    | some q => exact if_pos (by have := (i2 q rfl).2; omega))
               rw [hz] at i1
               exact ih11 (i + 1, some i, r) hmu ⟨i1, (fun q hq => by cases hq; exact ⟨by show i < i + 1; omega, hr⟩), by show i + 1 ≤ n; omega⟩)
            | (have hz : nstep m pol i b = b := by
                 unfold nstep
                 first
                 | (rw [c32]; rfl)
                 | (rw [c32, if_pos rfl]
                    cases b with
                    | none => exact absurd rfl c46
                    | some q => exact if_neg (by have := (i2 q rfl).2; omega))
               rw [hz] at i1
               exact ih11 (i + 1, b, br) hmu ⟨i1, fun q hq => ⟨by have := (i2 q hq).1; show q < i + 1; omega, (i2 q hq).2⟩, by show i + 1 ≤ n; omega⟩)
  exact L11 (0, none, nI 0) ⟨rfl, (fun q hq => by cases hq), Nat.zero_le _⟩
theorem payK_s {kind n k : Nat} {m : Mg} : payK kind n (k + 1) m = payN kind n (payK kind n k m) := by
  unfold payK
  rw [forG_last]
theorem payN_some {kind n q : Nat} {m : Mg} (h : nextM m n (m 5 2) = some q) (ho : owb m q = true) : payO kind m q = payN kind n m := by
  unfold payN payO
  rw [h, if_pos ho]
set_option maxHeartbeats 4000000 in
theorem c_X0_keepLimit {l : Launch} (hl : l.stackTraces = false) {κ : Kp} {h : Nat → Nat} {s : G} {m : Mg} {n lim : Nat} (hI : IM m n) (hE : EvOK m) (hL : m 5 1 = nI lim) (hl96 : lim ≤ 96) : Ct SS MM l κ yX0_keepLimit cX0_keepLimit 3 none 2 0 0 [.ref (h 0)] (eS κ h) (s, m) rv (fun _ u => ∃ s2, u = (s2, klM n m)) (fun _ _ => False) := by
  refine Ct.of (own := RX0) (by decide) rfl hl (by intro v hv; simp only [List.mem_cons, List.not_mem_nil, or_false] at hv; first | (rcases hv with rfl | rfl | rfl | rfl | rfl | rfl <;> rfl) | (rcases hv with rfl | rfl | rfl | rfl | rfl <;> rfl) | (rcases hv with rfl | rfl | rfl | rfl <;> rfl) | (rcases hv with rfl | rfl | rfl <;> rfl) | (rcases hv with rfl | rfl <;> rfl) | (subst hv; rfl) | exact hv.elim) (Nat.le_of_ble_eq_true rfl) (fun X hxl hxk C F N => ?_)
  subst hxl hxk
  show V X (eS (xK X) h) 0 [some (.ref (h 0)), none, none] [] (s, m) 0 0
  have h96 := hI.2.1
  have hc := cntG_le (f := owb m) n 0
  have hsur := nI_sub_toInt (a := cntG (owb m) 0 n) (b := lim) (by omega) (by omega)
  have hkl : klM n m = payK 2 n (cntG (owb m) 0 n - lim) m := by
    unfold klM limN
    rw [hL, nI_toInt (by omega)]
    rfl
  refine v_aload_n C dX0_keepLimit_0 rfl ?_
  refine v_getr C fl_X0_12 or_eS_0_0 dX0_keepLimit_1 ?_
  refine v_callVi C (c_X2_countOwed hl hI.1 h96) ym_X2_countOwed ml_X0_82 emb_e_m rfl rfl rfl rfl rfl dX0_keepLimit_4 (Nat.le_of_ble_eq_true rfl) (Nat.le_of_ble_eq_true rfl) (Nat.le_of_ble_eq_true rfl) (Nat.le_of_ble_eq_true rfl) (fun _ _ hu => hu.elim) (fun r u hu => ?_)
  obtain ⟨rfl, hu⟩ := hu
  subst u
  refine v_aload_n C dX0_keepLimit_7 rfl ?_
  refine v_getr C fl_X0_12 or_eS_0_0 dX0_keepLimit_8 ?_
  refine v_getr C fl_X0_64 or_eS_4_4 dX0_keepLimit_11 ?_
  refine v_iconst (v := nI 1) C dX0_keepLimit_14 (by decide) ?_
  refine v_ialdQ (x := nI lim) C ar_eS_9 (by decide) _ (hL) ?_ rfl dX0_keepLimit_15 ?_
  · omega
  first | refine v_isubN C dX0_keepLimit_16 (by omega) ?_ | refine v_isub C dX0_keepLimit_16 ?_
  refine v_istore_n C (lo2 := [some _, some _, none]) dX0_keepLimit_17 rfl (Nat.le_of_ble_eq_true rfl) rfl ?_
  refine v_iconst (v := nI 0) C dX0_keepLimit_18 (by decide) ?_
  refine v_istore_n C (lo2 := [some _, some _, some _]) dX0_keepLimit_19 rfl (Nat.le_of_ble_eq_true rfl) rfl ?_
  have L20 : ∀ (t : Nat × G), (fun t => t.1 ≤ cntG (owb m) 0 n - lim) t → (fun t : Nat × G => V X (eS (xK X) h) 20 [some (.ref (h 0)), some (.int (nI (cntG (owb m) 0 n) - nI lim)), some (.int (nI t.1))] [] (t.2, payK 2 n t.1 m) 0 0) t := by
    refine v_ind (fun t : Nat × G => cntG (owb m) 0 n - lim - t.1) ?_
    rintro ⟨k, s1⟩ ih20 hI20
    try dsimp only at hI20 ⊢
    refine v_iload_n C dX0_keepLimit_20 rfl ?_
    refine v_iload_n C dX0_keepLimit_21 rfl ?_
    refine v_icmp_ge C 49 dX0_keepLimit_22 (by decide) (fun c22 => ?_) (fun c22 => ?_)
    · rw [hsur, nI_toInt (by omega)] at c22
      have hkk : k = cntG (owb m) 0 n - lim := by omega
      refine v_vret C F dX0_keepLimit_49 (Nat.le_of_ble_eq_true rfl) (Nat.le_of_ble_eq_true rfl) ?_
      rw [hkl, ← hkk]
      exact ⟨_, rfl⟩
    · rw [hsur, nI_toInt (by omega)] at c22
      have hk := payK_ok (kind := 2) (k := k) hI
      have hyI := hk.1.im hI
      have hyE := hk.1.1.2.2.2.2 hE
      obtain ⟨q, hq, hqn, hqo⟩ := next_some (m := payK 2 n k m) (n := n) (pol := (payK 2 n k m) 5 2) (by rw [hk.2]; omega)
      refine v_aload_n C dX0_keepLimit_25 rfl ?_
      refine v_aload_n C dX0_keepLimit_26 rfl ?_
      refine v_aload_n C dX0_keepLimit_27 rfl ?_
      refine v_getr C fl_X0_12 or_eS_0_0 dX0_keepLimit_28 ?_
      refine v_getr C fl_X0_64 or_eS_4_4 dX0_keepLimit_31 ?_
      refine v_iconst (v := nI 2) C dX0_keepLimit_34 (by decide) ?_
      refine v_ialdQ (x := (payK 2 n k m) 5 2) C ar_eS_9 (by decide) _ (rfl) ?_ rfl dX0_keepLimit_35 ?_
      · omega
      refine v_callVi C (c_X0_placeFor hl hyI) ym_X0_placeFor ml_X0_91 emb_id_eS rfl rfl rfl rfl rfl dX0_keepLimit_36 (Nat.le_of_ble_eq_true rfl) (Nat.le_of_ble_eq_true rfl) (Nat.le_of_ble_eq_true rfl) (Nat.le_of_ble_eq_true rfl) (fun _ _ hu => hu.elim) (fun r u hu => ?_)
      obtain ⟨hr, s2, hu⟩ := hu
      subst u
      rw [hq] at hr
      have hr : r = nI q := hr
      subst r
      refine v_iconst (v := nI 2) C dX0_keepLimit_39 (by decide) ?_
      refine v_callVv C (c_X0_pay hl (n := n) hyI hyE (by omega) hqn) ym_X0_pay ml_X0_79 emb_id_eS rfl rfl rfl rfl rfl dX0_keepLimit_40 (Nat.le_of_ble_eq_true rfl) (Nat.le_of_ble_eq_true rfl) (Nat.le_of_ble_eq_true rfl) (Nat.le_of_ble_eq_true rfl) (fun _ _ hu => hu.elim) (fun r u hu => ?_)
      subst u
      refine V.stt (g2 := (s2, payK 2 n (k + 1) m)) (by rw [payN_some hq hqo, payK_s]) ?_
      first | refine v_iinc1 C (lo2 := [some _, some _, some _]) dX0_keepLimit_43 rfl rfl rfl ?_ | refine v_iinc C (lo2 := [some _, some _, some _]) dX0_keepLimit_43 rfl rfl rfl rfl ?_
      refine v_goto C 20 dX0_keepLimit_46 (by decide) ?_
      exact ih20 (k + 1, s2) (by show cntG (owb m) 0 n - lim - (k + 1) < cntG (owb m) 0 n - lim - k; omega) (by show k + 1 ≤ cntG (owb m) 0 n - lim; omega)
  exact L20 (0, _) (Nat.zero_le _)
set_option maxHeartbeats 4000000 in
theorem c_X0_passTicks {l : Launch} (hl : l.stackTraces = false) {κ : Kp} {h : Nat → Nat} {s : G} {m : Mg} {n t w : Nat} (hI : IM m n) (hE : EvOK m) (hW : m 5 0 = nI w) (hw : w ≤ 20) (ht : t ≤ 100) : Ct SS MM l κ yX0_passTicks cX0_passTicks 4 (some FieldType.int) 2 0 0 [.ref (h 0), .int (nI t)] (eS κ h) (s, m) ri (fun r u => r = nI (min (t * w) (cntG (owb m) 0 n)) ∧ ∃ s2, u = (s2, payK 1 n (min (t * w) (cntG (owb m) 0 n)) m)) (fun _ _ => False) := by
  refine Ct.of (own := RX0) (by decide) rfl hl (by intro v hv; simp only [List.mem_cons, List.not_mem_nil, or_false] at hv; first | (rcases hv with rfl | rfl | rfl | rfl | rfl | rfl <;> rfl) | (rcases hv with rfl | rfl | rfl | rfl | rfl <;> rfl) | (rcases hv with rfl | rfl | rfl | rfl <;> rfl) | (rcases hv with rfl | rfl | rfl <;> rfl) | (rcases hv with rfl | rfl <;> rfl) | (subst hv; rfl) | exact hv.elim) (Nat.le_of_ble_eq_true rfl) (fun X hxl hxk C F N => ?_)
  subst hxl hxk
  show V X (eS (xK X) h) 0 [some (.ref (h 0)), some (.int (nI t)), none, none] [] (s, m) 0 0
  have h96 := hI.2.1
  have hc := cntG_le (f := owb m) n 0
  have htw : t * w ≤ 100 * 20 := Nat.mul_le_mul ht hw
  refine v_iload_n C dX0_passTicks_0 rfl ?_
  refine v_aload_n C dX0_passTicks_1 rfl ?_
  refine v_getr C fl_X0_12 or_eS_0_0 dX0_passTicks_2 ?_
  refine v_getr C fl_X0_64 or_eS_4_4 dX0_passTicks_5 ?_
  refine v_iconst (v := nI 0) C dX0_passTicks_8 (by decide) ?_
  refine v_ialdQ (x := nI w) C ar_eS_9 (by decide) _ (hW) ?_ rfl dX0_passTicks_9 ?_
  · omega
  first | refine v_imulN C dX0_passTicks_10 ?_ | refine v_imul C dX0_passTicks_10 ?_
  refine v_aload_n C dX0_passTicks_11 rfl ?_
  refine v_getr C fl_X0_12 or_eS_0_0 dX0_passTicks_12 ?_
  refine v_callVi C (c_X2_countOwed hl hI.1 h96) ym_X2_countOwed ml_X0_82 emb_e_m rfl rfl rfl rfl rfl dX0_passTicks_15 (Nat.le_of_ble_eq_true rfl) (Nat.le_of_ble_eq_true rfl) (Nat.le_of_ble_eq_true rfl) (Nat.le_of_ble_eq_true rfl) (fun _ _ hu => hu.elim) (fun r u hu => ?_)
  obtain ⟨rfl, hu⟩ := hu
  subst u
  refine v_mmin (z := nI (min (t * w) (cntG (owb m) 0 n))) C ml_X0_85 w_minS w_mI w_minC rfl (Nat.le_of_ble_eq_true rfl) dX0_passTicks_18 (Nat.le_of_ble_eq_true rfl) (Nat.le_of_ble_eq_true rfl) ?_ ?_
  · exact nI_min (by omega) (by omega)
  refine v_istore_n C (lo2 := [some _, some _, some _, none]) dX0_passTicks_21 rfl (Nat.le_of_ble_eq_true rfl) rfl ?_
  refine v_iconst (v := nI 0) C dX0_passTicks_22 (by decide) ?_
  refine v_istore_n C (lo2 := [some _, some _, some _, some _]) dX0_passTicks_23 rfl (Nat.le_of_ble_eq_true rfl) rfl ?_
  have L24 : ∀ (x : Nat × G), (fun x => x.1 ≤ min (t * w) (cntG (owb m) 0 n)) x → (fun x : Nat × G => V X (eS (xK X) h) 24 [some (.ref (h 0)), some (.int (nI t)), some (.int (nI (min (t * w) (cntG (owb m) 0 n)))), some (.int (nI x.1))] [] (x.2, payK 1 n x.1 m) 0 0) x := by
    refine v_ind (fun x : Nat × G => min (t * w) (cntG (owb m) 0 n) - x.1) ?_
    rintro ⟨k, s1⟩ ih24 hI24
    try dsimp only at hI24 ⊢
    refine v_iload_n C dX0_passTicks_24 rfl ?_
    refine v_iload_n C dX0_passTicks_25 rfl ?_
    first | refine v_icmp_geN C 53 dX0_passTicks_26 (by decide) (by omega) (by omega) (fun c26 => ?_) (fun c26 => ?_) | refine v_icmp_ge C 53 dX0_passTicks_26 (by decide) (fun c26 => ?_) (fun c26 => ?_)
    · refine v_iload_n C dX0_passTicks_53 rfl ?_
      refine v_iret C F (by first | rfl | exact bI_nar _) dX0_passTicks_54 (Nat.le_of_ble_eq_true rfl) (Nat.le_of_ble_eq_true rfl) ?_
      have hkk : k = min (t * w) (cntG (owb m) 0 n) := by omega
      rw [← hkk]
      exact ⟨rfl, _, rfl⟩
    · have hk := payK_ok (kind := 1) (k := k) hI
      have hyI := hk.1.im hI
      have hyE := hk.1.1.2.2.2.2 hE
      obtain ⟨q, hq, hqn, hqo⟩ := next_some (m := payK 1 n k m) (n := n) (pol := (payK 1 n k m) 5 2) (by rw [hk.2]; omega)
      refine v_aload_n C dX0_passTicks_29 rfl ?_
      refine v_aload_n C dX0_passTicks_30 rfl ?_
      refine v_aload_n C dX0_passTicks_31 rfl ?_
      refine v_getr C fl_X0_12 or_eS_0_0 dX0_passTicks_32 ?_
      refine v_getr C fl_X0_64 or_eS_4_4 dX0_passTicks_35 ?_
      refine v_iconst (v := nI 2) C dX0_passTicks_38 (by decide) ?_
      refine v_ialdQ (x := (payK 1 n k m) 5 2) C ar_eS_9 (by decide) _ (rfl) ?_ rfl dX0_passTicks_39 ?_
      · omega
      refine v_callVi C (c_X0_placeFor hl hyI) ym_X0_placeFor ml_X0_91 emb_id_eS rfl rfl rfl rfl rfl dX0_passTicks_40 (Nat.le_of_ble_eq_true rfl) (Nat.le_of_ble_eq_true rfl) (Nat.le_of_ble_eq_true rfl) (Nat.le_of_ble_eq_true rfl) (fun _ _ hu => hu.elim) (fun r u hu => ?_)
      obtain ⟨hr, s2, hu⟩ := hu
      subst u
      rw [hq] at hr
      have hr : r = nI q := hr
      subst r
      refine v_iconst (v := nI 1) C dX0_passTicks_43 (by decide) ?_
      refine v_callVv C (c_X0_pay hl (n := n) hyI hyE (by omega) hqn) ym_X0_pay ml_X0_79 emb_id_eS rfl rfl rfl rfl rfl dX0_passTicks_44 (Nat.le_of_ble_eq_true rfl) (Nat.le_of_ble_eq_true rfl) (Nat.le_of_ble_eq_true rfl) (Nat.le_of_ble_eq_true rfl) (fun _ _ hu => hu.elim) (fun r u hu => ?_)
      subst u
      refine V.stt (g2 := (s2, payK 1 n (k + 1) m)) (by rw [payN_some hq hqo, payK_s]) ?_
      first | refine v_iinc1 C (lo2 := [some _, some _, some _, some _]) dX0_passTicks_47 rfl rfl rfl ?_ | refine v_iinc C (lo2 := [some _, some _, some _, some _]) dX0_passTicks_47 rfl rfl rfl rfl ?_
      refine v_goto C 24 dX0_passTicks_50 (by decide) ?_
      exact ih24 (k + 1, s2) (by show min (t * w) (cntG (owb m) 0 n) - (k + 1) < min (t * w) (cntG (owb m) 0 n) - k; omega) (by show k + 1 ≤ min (t * w) (cntG (owb m) 0 n); omega)
  exact L24 (0, _) (Nat.zero_le _)
set_option maxHeartbeats 4000000 in
theorem c_X0_payUntilPaid {l : Launch} (hl : l.stackTraces = false) {κ : Kp} {h : Nat → Nat} {s : G} {m : Mg} {n p : Nat} (hI : IM m n) (hE : EvOK m) (hp : p < n) : Ct SS MM l κ yX0_payUntilPaid cX0_payUntilPaid 3 (some FieldType.int) 2 0 0 [.ref (h 0), .int (nI p)] (eS κ h) (s, m) ri (fun r u => r = nI (untM n p 96 m).1 ∧ ∃ s2, u = (s2, (untM n p 96 m).2)) (fun _ _ => False) := by
  refine Ct.of (own := RX0) (by decide) rfl hl (by intro v hv; simp only [List.mem_cons, List.not_mem_nil, or_false] at hv; first | (rcases hv with rfl | rfl | rfl | rfl | rfl | rfl <;> rfl) | (rcases hv with rfl | rfl | rfl | rfl | rfl <;> rfl) | (rcases hv with rfl | rfl | rfl | rfl <;> rfl) | (rcases hv with rfl | rfl | rfl <;> rfl) | (rcases hv with rfl | rfl <;> rfl) | (subst hv; rfl) | exact hv.elim) (Nat.le_of_ble_eq_true rfl) (fun X hxl hxk C F N => ?_)
  subst hxl hxk
  show V X (eS (xK X) h) 0 [some (.ref (h 0)), some (.int (nI p)), none] [] (s, m) 0 0
  have h96 := hI.2.1
  refine v_iconst (v := nI 0) C dX0_payUntilPaid_0 (by decide) ?_
  refine v_istore_n C (lo2 := [some _, some _, some _]) dX0_payUntilPaid_1 rfl (Nat.le_of_ble_eq_true rfl) rfl ?_
  have L2 : ∀ (t : Nat × G × Mg), (fun t => t.1 ≤ 96 ∧ Pd n m t.2.2 ∧ t.1 + (untM n p (96 - t.1) t.2.2).1 = (untM n p 96 m).1 ∧ (untM n p (96 - t.1) t.2.2).2 = (untM n p 96 m).2) t → (fun t : Nat × G × Mg => V X (eS (xK X) h) 2 [some (.ref (h 0)), some (.int (nI p)), some (.int (nI t.1))] [] (t.2.1, t.2.2) 0 0) t := by
    refine v_ind (fun t : Nat × G × Mg => 96 - t.1) ?_
    rintro ⟨k, s1, y⟩ ih2 hI2
    try dsimp only at hI2 ⊢
    obtain ⟨i1, i2, i3, i4⟩ := hI2
    have hyI := i2.im hI
    have hyE := i2.1.2.2.2.2 hE
    refine v_iload_n C dX0_payUntilPaid_2 rfl ?_
    refine v_bipush (v := nI 96) C dX0_payUntilPaid_3 (by decide) ?_
    first | refine v_icmp_geN C 43 dX0_payUntilPaid_5 (by decide) (by omega) (by omega) (fun c5 => ?_) (fun c5 => ?_) | refine v_icmp_ge C 43 dX0_payUntilPaid_5 (by decide) (fun c5 => ?_) (fun c5 => ?_)
    · have hz : untM n p (96 - k) y = (0, y) := by
        rw [show 96 - k = 0 by omega]
        rfl
      refine v_iload_n C dX0_payUntilPaid_43 rfl ?_
      refine v_iret C F (by first | rfl | exact bI_nar _) dX0_payUntilPaid_44 (Nat.le_of_ble_eq_true rfl) (Nat.le_of_ble_eq_true rfl) ?_
      rw [hz] at i3 i4
      exact ⟨by rw [← i3]; rfl, s1, by rw [← i4]⟩
    · refine v_aload_n C dX0_payUntilPaid_8 rfl ?_
      refine v_getr C fl_X0_12 or_eS_0_0 dX0_payUntilPaid_9 ?_
      refine v_iload_n C dX0_payUntilPaid_12 rfl ?_
      refine v_callVi C (c_X2_owesN hl (n := n) hyI.1 h96 hp) ym_X2_owes ml_X0_103 emb_e_m rfl rfl rfl rfl rfl dX0_payUntilPaid_13 (Nat.le_of_ble_eq_true rfl) (Nat.le_of_ble_eq_true rfl) (Nat.le_of_ble_eq_true rfl) (Nat.le_of_ble_eq_true rfl) (fun _ _ hu => hu.elim) (fun r u hu => ?_)
      obtain ⟨rfl, hu⟩ := hu
      subst u
      refine v_if_eqB C 43 dX0_payUntilPaid_16 (by decide) (fun c16 => ?_) (fun c16 => ?_)
      · have hz : untM n p (96 - k) y = (0, y) := by
          rw [show 96 - k = (96 - (k + 1)) + 1 by omega]
          exact if_neg (by rw [c16]; exact Bool.false_ne_true)
        refine v_iload_n C dX0_payUntilPaid_43 rfl ?_
        refine v_iret C F (by first | rfl | exact bI_nar _) dX0_payUntilPaid_44 (Nat.le_of_ble_eq_true rfl) (Nat.le_of_ble_eq_true rfl) ?_
        rw [hz] at i3 i4
        exact ⟨by rw [← i3]; rfl, s1, by rw [← i4]⟩
      · obtain ⟨q, hq, hqn, hqo⟩ := next_some (m := y) (n := n) (pol := y 5 2) (cntG_posI c16 n 0 (Nat.zero_le _) (by omega))
        have hz : untM n p (96 - k) y = ((untM n p (96 - (k + 1)) (payN 1 n y)).1 + 1, (untM n p (96 - (k + 1)) (payN 1 n y)).2) := by
          rw [show 96 - k = (96 - (k + 1)) + 1 by omega]
          exact if_pos c16
        refine v_aload_n C dX0_payUntilPaid_19 rfl ?_
        refine v_aload_n C dX0_payUntilPaid_20 rfl ?_
        refine v_aload_n C dX0_payUntilPaid_21 rfl ?_
        refine v_getr C fl_X0_12 or_eS_0_0 dX0_payUntilPaid_22 ?_
        refine v_getr C fl_X0_64 or_eS_4_4 dX0_payUntilPaid_25 ?_
        refine v_iconst (v := nI 2) C dX0_payUntilPaid_28 (by decide) ?_
        refine v_ialdQ (x := y 5 2) C ar_eS_9 (by decide) _ (rfl) ?_ rfl dX0_payUntilPaid_29 ?_
        · omega
        refine v_callVi C (c_X0_placeFor hl hyI) ym_X0_placeFor ml_X0_91 emb_id_eS rfl rfl rfl rfl rfl dX0_payUntilPaid_30 (Nat.le_of_ble_eq_true rfl) (Nat.le_of_ble_eq_true rfl) (Nat.le_of_ble_eq_true rfl) (Nat.le_of_ble_eq_true rfl) (fun _ _ hu => hu.elim) (fun r u hu => ?_)
        obtain ⟨hr, s2, hu⟩ := hu
        subst u
        rw [hq] at hr
        have hr : r = nI q := hr
        subst r
        refine v_iconst (v := nI 1) C dX0_payUntilPaid_33 (by decide) ?_
        refine v_callVv C (c_X0_pay hl (n := n) hyI hyE (by omega) hqn) ym_X0_pay ml_X0_79 emb_id_eS rfl rfl rfl rfl rfl dX0_payUntilPaid_34 (Nat.le_of_ble_eq_true rfl) (Nat.le_of_ble_eq_true rfl) (Nat.le_of_ble_eq_true rfl) (Nat.le_of_ble_eq_true rfl) (fun _ _ hu => hu.elim) (fun r u hu => ?_)
        subst u
        refine V.stt (g2 := (s2, payN 1 n y)) (by rw [payN_some hq hqo]) ?_
        first | refine v_iinc1 C (lo2 := [some _, some _, some _]) dX0_payUntilPaid_37 rfl rfl rfl ?_ | refine v_iinc C (lo2 := [some _, some _, some _]) dX0_payUntilPaid_37 rfl rfl rfl rfl ?_
        refine v_goto C 2 dX0_payUntilPaid_40 (by decide) ?_
        rw [hz] at i3 i4
        exact ih2 (k + 1, s2, payN 1 n y) (by show 96 - (k + 1) < 96 - k; omega) ⟨by show k + 1 ≤ 96; omega, (show Pd n m (payN 1 n y) from i2.trans hI payN_Pd), by show k + 1 + (untM n p (96 - (k + 1)) (payN 1 n y)).1 = _; have i3 : k + ((untM n p (96 - (k + 1)) (payN 1 n y)).1 + 1) = _ := i3; omega, i4⟩
  exact L2 (0, s, m) ⟨Nat.zero_le _, Pd.rfl, Nat.zero_add _, rfl⟩
set_option maxHeartbeats 4000000 in
theorem c_X0_payRow {l : Launch} (hl : l.stackTraces = false) {κ : Kp} {h : Nat → Nat} {s : G} {m : Mg} {n a b : Nat} (hI : IM m n) (hE : EvOK m) (hab : a ≤ b) (hb : b < n) : Ct SS MM l κ yX0_payRow cX0_payRow 5 (some FieldType.int) 2 0 0 [.ref (h 0), .int (nI a), .int (nI b)] (eS κ h) (s, m) ri (fun r u => r = nI (cntG (owb m) a (b + 1 - a)) ∧ u = (s, rowM a b m)) (fun _ _ => False) := by
  refine Ct.of (own := RX0) (by decide) rfl hl (by intro v hv; simp only [List.mem_cons, List.not_mem_nil, or_false] at hv; first | (rcases hv with rfl | rfl | rfl | rfl | rfl | rfl <;> rfl) | (rcases hv with rfl | rfl | rfl | rfl | rfl <;> rfl) | (rcases hv with rfl | rfl | rfl | rfl <;> rfl) | (rcases hv with rfl | rfl | rfl <;> rfl) | (rcases hv with rfl | rfl <;> rfl) | (subst hv; rfl) | exact hv.elim) (Nat.le_of_ble_eq_true rfl) (fun X hxl hxk C F N => ?_)
  subst hxl hxk
  show V X (eS (xK X) h) 0 [some (.ref (h 0)), some (.int (nI a)), some (.int (nI b)), none, none] [] (s, m) 0 0
  have h96 := hI.2.1
  refine v_aload_n C dX0_payRow_0 rfl ?_
  refine v_getr C fl_X0_12 or_eS_0_0 dX0_payRow_1 ?_
  refine v_iload_n C dX0_payRow_4 rfl ?_
  refine v_iload_n C dX0_payRow_5 rfl ?_
  refine v_callVi C (c_X2_countOwedN hl (by omega) (by omega)) ym_X2_countOwedIn ml_X0_94 emb_e_m rfl rfl rfl rfl rfl dX0_payRow_6 (Nat.le_of_ble_eq_true rfl) (Nat.le_of_ble_eq_true rfl) (Nat.le_of_ble_eq_true rfl) (Nat.le_of_ble_eq_true rfl) (fun _ _ hu => hu.elim) (fun r u hu => ?_)
  obtain ⟨rfl, hu⟩ := hu
  subst u
  refine v_istore_n C (lo2 := [some _, some _, some _, some _, none]) dX0_payRow_9 rfl (Nat.le_of_ble_eq_true rfl) rfl ?_
  refine v_iload_n C dX0_payRow_10 rfl ?_
  refine v_istore C (lo2 := [some _, some _, some _, some _, some _]) dX0_payRow_11 rfl (Nat.le_of_ble_eq_true rfl) rfl ?_
  have L13 : ∀ (t : Nat × Mg), (fun t => a ≤ t.1 ∧ t.1 ≤ b + 1 ∧ Pd n m t.2 ∧ forG (fun p y => payO 2 y p) t.1 (b + 1 - t.1) t.2 = rowM a b m) t → (fun t : Nat × Mg => V X (eS (xK X) h) 13 [some (.ref (h 0)), some (.int (nI a)), some (.int (nI b)), some (.int (nI (cntG (owb m) a (b + 1 - a)))), some (.int (nI t.1))] [] (s, t.2) 0 0) t := by
    refine v_ind (fun t : Nat × Mg => b + 1 - t.1) ?_
    rintro ⟨i, y⟩ ih13 hI13
    try dsimp only at hI13 ⊢
    obtain ⟨i1, i2, i3, i4⟩ := hI13
    have hyI := i3.im hI
    have hyE := i3.1.2.2.2.2 hE
    refine v_iload C dX0_payRow_13 rfl ?_
    refine v_iload_n C dX0_payRow_15 rfl ?_
    first | refine v_icmp_gtN C 32 dX0_payRow_16 (by decide) (by omega) (by omega) (fun c16 => ?_) (fun c16 => ?_) | refine v_icmp_gt C 32 dX0_payRow_16 (by decide) (fun c16 => ?_) (fun c16 => ?_)
    · refine v_iload_n C dX0_payRow_32 rfl ?_
      refine v_iret C F (by first | rfl | exact bI_nar _) dX0_payRow_33 (Nat.le_of_ble_eq_true rfl) (Nat.le_of_ble_eq_true rfl) ?_
      rw [forG_0 (by omega)] at i4
      exact ⟨rfl, by rw [← i4]⟩
    · refine v_aload_n C dX0_payRow_19 rfl ?_
      refine v_iload C dX0_payRow_20 rfl ?_
      refine v_iconst (v := nI 2) C dX0_payRow_22 (by decide) ?_
      refine v_callVv C (c_X0_pay hl (n := n) hyI hyE (by omega) (by omega)) ym_X0_pay ml_X0_79 emb_id_eS rfl rfl rfl rfl rfl dX0_payRow_23 (Nat.le_of_ble_eq_true rfl) (Nat.le_of_ble_eq_true rfl) (Nat.le_of_ble_eq_true rfl) (Nat.le_of_ble_eq_true rfl) (fun _ _ hu => hu.elim) (fun r u hu => ?_)
      subst u
      refine V.stt (g2 := (s, payO 2 y i)) (rfl) ?_
      first | refine v_iinc1 C (lo2 := [some _, some _, some _, some _, some _]) dX0_payRow_26 rfl rfl rfl ?_ | refine v_iinc C (lo2 := [some _, some _, some _, some _, some _]) dX0_payRow_26 rfl rfl rfl rfl ?_
      refine v_goto C 13 dX0_payRow_29 (by decide) ?_
      have hib : i < b + 1 := by omega
      rw [forG_s hib] at i4
      exact ih13 (i + 1, payO 2 y i) (by show b + 1 - (i + 1) < b + 1 - i; omega) ⟨by show a ≤ i + 1; omega, by show i + 1 ≤ b + 1; omega, (show Pd n m (payO 2 y i) from i3.trans hI (payO_Pd (by omega))), i4⟩
  exact L13 (a, m) ⟨Nat.le_refl _, by show a ≤ b + 1; omega, Pd.rfl, rfl⟩
theorem rowM_Pd {n a b : Nat} {m : Mg} (hI : IM m n) (hb : b < n) (hab : a ≤ b) : Pd n m (rowM a b m) := by
  have h := forG_inv (f := fun p y => payO 2 y p) (fun i y => Pd n m y) (b + 1 - a) a m Pd.rfl (fun j y h1 h2 hy => (show Pd n m (payO 2 y j) from hy.trans hI (payO_Pd (by omega))))
  exact h
set_option maxHeartbeats 4000000 in
theorem c_X0_lockRow {l : Launch} (hl : l.stackTraces = false) {κ : Kp} {h : Nat → Nat} {s : G} {m : Mg} {n a b : Nat} (hI : IM m n) (hE : EvOK m) (hab : a ≤ b) (hb : b < n) : Ct SS MM l κ yX0_lockRow cX0_lockRow 5 (some FieldType.int) 3 0 0 [.ref (h 0), .int (nI a), .int (nI b)] (eS κ h) (s, m) ri (fun r u => r = nI (cntG (owb m) a (b + 1 - a)) ∧ u = (s, lockM a b m)) (fun _ _ => False) := by
  refine Ct.of (own := RX0) (by decide) rfl hl (by intro v hv; simp only [List.mem_cons, List.not_mem_nil, or_false] at hv; first | (rcases hv with rfl | rfl | rfl | rfl | rfl | rfl <;> rfl) | (rcases hv with rfl | rfl | rfl | rfl | rfl <;> rfl) | (rcases hv with rfl | rfl | rfl | rfl <;> rfl) | (rcases hv with rfl | rfl | rfl <;> rfl) | (rcases hv with rfl | rfl <;> rfl) | (subst hv; rfl) | exact hv.elim) (Nat.le_of_ble_eq_true rfl) (fun X hxl hxk C F N => ?_)
  subst hxl hxk
  show V X (eS (xK X) h) 0 [some (.ref (h 0)), some (.int (nI a)), some (.int (nI b)), none, none] [] (s, m) 0 0
  have h96 := hI.2.1
  refine v_aload_n C dX0_lockRow_0 rfl ?_
  refine v_iload_n C dX0_lockRow_1 rfl ?_
  refine v_iload_n C dX0_lockRow_2 rfl ?_
  refine v_callVi C (c_X0_payRow hl hI hE hab hb) ym_X0_payRow ml_X0_97 emb_id_eS rfl rfl rfl rfl rfl dX0_lockRow_3 (Nat.le_of_ble_eq_true rfl) (Nat.le_of_ble_eq_true rfl) (Nat.le_of_ble_eq_true rfl) (Nat.le_of_ble_eq_true rfl) (fun _ _ hu => hu.elim) (fun r u hu => ?_)
  obtain ⟨rfl, hu⟩ := hu
  subst u
  refine v_istore_n C (lo2 := [some _, some _, some _, some _, none]) dX0_lockRow_6 rfl (Nat.le_of_ble_eq_true rfl) rfl ?_
  refine v_iload_n C dX0_lockRow_7 rfl ?_
  refine v_istore C (lo2 := [some _, some _, some _, some _, some _]) dX0_lockRow_8 rfl (Nat.le_of_ble_eq_true rfl) rfl ?_
  have L10 : ∀ (t : Nat × Mg), (fun t => a ≤ t.1 ∧ t.1 ≤ b + 1 ∧ forG (fun p y => lckM y p (nI 1)) t.1 (b + 1 - t.1) t.2 = lockM a b m) t → (fun t : Nat × Mg => V X (eS (xK X) h) 10 [some (.ref (h 0)), some (.int (nI a)), some (.int (nI b)), some (.int (nI (cntG (owb m) a (b + 1 - a)))), some (.int (nI t.1))] [] (s, t.2) 0 0) t := by
    refine v_ind (fun t : Nat × Mg => b + 1 - t.1) ?_
    rintro ⟨i, y⟩ ih10 hI10
    try dsimp only at hI10 ⊢
    obtain ⟨i1, i2, i4⟩ := hI10
    refine v_iload C dX0_lockRow_10 rfl ?_
    refine v_iload_n C dX0_lockRow_12 rfl ?_
    first | refine v_icmp_gtN C 33 dX0_lockRow_13 (by decide) (by omega) (by omega) (fun c13 => ?_) (fun c13 => ?_) | refine v_icmp_gt C 33 dX0_lockRow_13 (by decide) (fun c13 => ?_) (fun c13 => ?_)
    · refine v_iload_n C dX0_lockRow_33 rfl ?_
      refine v_iret C F (by first | rfl | exact bI_nar _) dX0_lockRow_34 (Nat.le_of_ble_eq_true rfl) (Nat.le_of_ble_eq_true rfl) ?_
      rw [forG_0 (by omega)] at i4
      exact ⟨rfl, by rw [← i4]⟩
    · refine v_aload_n C dX0_lockRow_16 rfl ?_
      refine v_getr C fl_X0_12 or_eS_0_0 dX0_lockRow_17 ?_
      refine v_getr C fl_X0_100 or_eS_4_3 dX0_lockRow_20 ?_
      refine v_iload C dX0_lockRow_23 rfl ?_
      refine v_iconst (v := nI 1) C dX0_lockRow_25 (by decide) ?_
      refine v_zast C ar_eS_8 (by decide) _ ?_ rfl (by first | rfl | exact bI_vp _) dX0_lockRow_26 ?_
      · omega
      refine V.stt (g2 := (s, lckM y i (nI 1))) (rfl) ?_
      first | refine v_iinc1 C (lo2 := [some _, some _, some _, some _, some _]) dX0_lockRow_27 rfl rfl rfl ?_ | refine v_iinc C (lo2 := [some _, some _, some _, some _, some _]) dX0_lockRow_27 rfl rfl rfl rfl ?_
      refine v_goto C 10 dX0_lockRow_30 (by decide) ?_
      have hib : i < b + 1 := by omega
      rw [forG_s hib] at i4
      exact ih10 (i + 1, lckM y i (nI 1)) (by show b + 1 - (i + 1) < b + 1 - i; omega) ⟨by show a ≤ i + 1; omega, by show i + 1 ≤ b + 1; omega, i4⟩
  exact L10 (a, rowM a b m) ⟨Nat.le_refl _, by show a ≤ b + 1; omega, rfl⟩
set_option maxHeartbeats 4000000 in
theorem c_X0_ticksFor {l : Launch} (hl : l.stackTraces = false) {κ : Kp} {h : Nat → Nat} {s : G} {m : Mg} {c w : Nat} (hW : m 5 0 = nI w) (hw : w ≤ 20) (hw1 : 1 ≤ w) (hc : c ≤ 1000) : Ct SS MM l κ yX0_ticksFor cX0_ticksFor 3 (some FieldType.int) 0 0 0 [.ref (h 0), .int (nI c)] (eS κ h) (s, m) ri (fun r u => r = nI ((c + w - 1) / w) ∧ u = (s, m)) (fun _ _ => False) := by
  refine Ct.of (own := RX0) (by decide) rfl hl (by intro v hv; simp only [List.mem_cons, List.not_mem_nil, or_false] at hv; first | (rcases hv with rfl | rfl | rfl | rfl | rfl | rfl <;> rfl) | (rcases hv with rfl | rfl | rfl | rfl | rfl <;> rfl) | (rcases hv with rfl | rfl | rfl | rfl <;> rfl) | (rcases hv with rfl | rfl | rfl <;> rfl) | (rcases hv with rfl | rfl <;> rfl) | (subst hv; rfl) | exact hv.elim) (Nat.le_of_ble_eq_true rfl) (fun X hxl hxk C F N => ?_)
  subst hxl hxk
  show V X (eS (xK X) h) 0 [some (.ref (h 0)), some (.int (nI c)), none] [] (s, m) 0 0
  refine v_aload_n C dX0_ticksFor_0 rfl ?_
  refine v_getr C fl_X0_12 or_eS_0_0 dX0_ticksFor_1 ?_
  refine v_getr C fl_X0_64 or_eS_4_4 dX0_ticksFor_4 ?_
  refine v_iconst (v := nI 0) C dX0_ticksFor_7 (by decide) ?_
  refine v_ialdQ (x := nI w) C ar_eS_9 (by decide) _ (hW) ?_ rfl dX0_ticksFor_8 ?_
  · omega
  refine v_istore_n C (lo2 := [some _, some _, some _]) dX0_ticksFor_9 rfl (Nat.le_of_ble_eq_true rfl) rfl ?_
  refine v_iload_n C dX0_ticksFor_10 rfl ?_
  refine v_iconst (v := nI 1) C dX0_ticksFor_11 (by decide) ?_
  first | refine v_icmp_geN C 19 dX0_ticksFor_12 (by decide) (by omega) (by omega) (fun c12 => ?_) (fun c12 => ?_) | refine v_icmp_ge C 19 dX0_ticksFor_12 (by decide) (fun c12 => ?_) (fun c12 => ?_)
  · refine v_iload_n C dX0_ticksFor_19 rfl ?_
    refine v_iload_n C dX0_ticksFor_20 rfl ?_
    first | refine v_iaddN C dX0_ticksFor_21 ?_ | refine v_iadd C dX0_ticksFor_21 ?_
    refine v_iconst (v := nI 1) C dX0_ticksFor_22 (by decide) ?_
    first | refine v_isubN C dX0_ticksFor_23 (by omega) ?_ | refine v_isub C dX0_ticksFor_23 ?_
    refine v_iload_n C dX0_ticksFor_24 rfl ?_
    refine v_idivN C dX0_ticksFor_25 (by omega) (by omega) (by omega) ?_
    refine v_iret C F (by first | rfl | exact bI_nar _) dX0_ticksFor_26 (Nat.le_of_ble_eq_true rfl) (Nat.le_of_ble_eq_true rfl) ?_
    first | exact rfl | exact ⟨rfl, rfl⟩
  · exfalso
    omega
