/-- place j goes on with the debt of place i -/
def gonB (m : Mg) (i j : Nat) : Bool := if ¬ m 2 j = -1 ∧ ¬ m 2 i = -1 ∧ m 3 j = m 3 i ∧ src m j = src m i + 1 then true else false
set_option maxHeartbeats 16000000 in
theorem c_L_goesOn {l : Launch} (hl : l.stackTraces = false) {κ : Kp} {h : Nat → Nat} {n : Nat} {m : Mg} {e : Nat → Nat} {p : Int32} {i j : Nat} (hI : IM m n) (hi : i < n) (hj : j < n) (hi2 : i < 1000) (h14 : n ≤ 14) : CtG SS MM l κ yL_goesOn cL_goesOn 2 (some FieldType.boolean) 0 0 0 [.ref (h (8 + i)), .ref (h (8 + j))] (lmW κ h n (m, e, p)) ri (fun r w => r = bI (gonB m i j) ∧ w = lmW κ h n (m, e, p)) (fun _ _ => False) := by
  refine CtG.of (own := RL) (by decide) rfl hl (by intro v hv; simp only [List.mem_cons, List.not_mem_nil, or_false] at hv; first | (rcases hv with rfl | rfl | rfl | rfl | rfl | rfl <;> rfl) | (rcases hv with rfl | rfl | rfl | rfl | rfl <;> rfl) | (rcases hv with rfl | rfl | rfl | rfl <;> rfl) | (rcases hv with rfl | rfl | rfl <;> rfl) | (rcases hv with rfl | rfl <;> rfl) | (subst hv; rfl) | exact hv.elim) (Nat.le_of_ble_eq_true rfl) (fun X hxl hxk C F NH hnm => ?_)
  subst hxl hxk
  show V X iW 0 [some (.ref (h (8 + i))), some (.ref (h (8 + j)))] [] (lmW (xK X) h n (m, e, p)) 0 0
  refine v_aload_n C dL_goesOn_0 rfl ?_
  refine v_gFN (K := fun w => w) C Cxt.id (v := va_rf (srcV h m j)) (5 + j) fln_L_190 (plc_at hj) rfl dL_goesOn_1 ?_
  refine v_ifnull C (x := (srcV h m j)) 48 dL_goesOn_4 (by decide) (fun c4 => ?_) (fun a4 c4 => ?_)
  · refine v_iconst (v := nI 0) C dL_goesOn_48 (by decide) ?_
    refine v_iretG C F (by first | rfl | exact bI_nar _) dL_goesOn_49 (by first | omega | exact Nat.le_of_ble_eq_true rfl) (by first | omega | exact Nat.le_of_ble_eq_true rfl) rfl (List.Perm.refl _) ?_
    refine ⟨?_, rfl⟩
    unfold gonB
    first
    | (rw [(srcV_no.mp c4)]; rfl)
    | (rw [(srcV_no.mp c11)]; simp; done)
    | (rw [if_pos ⟨oj, oi, c22, by omega⟩]; rfl)
    | (rw [if_neg (fun z => by omega)]; rfl)
    | (rw [if_neg (fun z => c22 z.2.2.1)]; rfl)
    | (rw [if_neg (fun z => z.1 (srcV_no.mp c4))]; rfl)
    | (rw [if_neg (fun z => z.2.1 (srcV_no.mp c11))]; rfl)
  · have oj := (srcV_yes c4).1
    have hsj := IM_src hI hj oj
    refine v_aload_n C dL_goesOn_7 rfl ?_
    refine v_gFN (K := fun w => w) C Cxt.id (v := va_rf (srcV h m i)) (5 + i) fln_L_190 (plc_at hi) rfl dL_goesOn_8 ?_
    refine v_ifnull C (x := (srcV h m i)) 48 dL_goesOn_11 (by decide) (fun c11 => ?_) (fun a11 c11 => ?_)
    · refine v_iconst (v := nI 0) C dL_goesOn_48 (by decide) ?_
      refine v_iretG C F (by first | rfl | exact bI_nar _) dL_goesOn_49 (by first | omega | exact Nat.le_of_ble_eq_true rfl) (by first | omega | exact Nat.le_of_ble_eq_true rfl) rfl (List.Perm.refl _) ?_
      refine ⟨?_, rfl⟩
      unfold gonB
      first
      | (rw [(srcV_no.mp c4)]; rfl)
      | (rw [(srcV_no.mp c11)]; simp; done)
      | (rw [if_pos ⟨oj, oi, c22, by omega⟩]; rfl)
      | (rw [if_neg (fun z => by omega)]; rfl)
      | (rw [if_neg (fun z => c22 z.2.2.1)]; rfl)
      | (rw [if_neg (fun z => z.1 (srcV_no.mp c4))]; rfl)
      | (rw [if_neg (fun z => z.2.1 (srcV_no.mp c11))]; rfl)
    · have oi := (srcV_yes c11).1
      have hsi := IM_src hI hi oi
      refine v_aload_n C dL_goesOn_14 rfl ?_
      refine v_gFN (K := fun w => w) C Cxt.id (v := .int (m 3 j)) (5 + j) fln_L_196 (plc_at hj) rfl dL_goesOn_15 ?_
      refine v_aload_n C dL_goesOn_18 rfl ?_
      refine v_gFN (K := fun w => w) C Cxt.id (v := .int (m 3 i)) (5 + i) fln_L_196 (plc_at hi) rfl dL_goesOn_19 ?_
      refine v_icmp_ne C 48 dL_goesOn_22 (by decide) (fun c22 => ?_) (fun c22 => ?_)
      · refine v_iconst (v := nI 0) C dL_goesOn_48 (by decide) ?_
        refine v_iretG C F (by first | rfl | exact bI_nar _) dL_goesOn_49 (by first | omega | exact Nat.le_of_ble_eq_true rfl) (by first | omega | exact Nat.le_of_ble_eq_true rfl) rfl (List.Perm.refl _) ?_
        refine ⟨?_, rfl⟩
        unfold gonB
        first
        | (rw [(srcV_no.mp c4)]; rfl)
        | (rw [(srcV_no.mp c11)]; simp; done)
        | (rw [if_pos ⟨oj, oi, c22, by omega⟩]; rfl)
        | (rw [if_neg (fun z => by omega)]; rfl)
        | (rw [if_neg (fun z => c22 z.2.2.1)]; rfl)
        | (rw [if_neg (fun z => z.1 (srcV_no.mp c4))]; rfl)
        | (rw [if_neg (fun z => z.2.1 (srcV_no.mp c11))]; rfl)
      · refine v_aload_n C dL_goesOn_25 rfl ?_
        refine v_gFN (K := fun w => w) C Cxt.id (v := va_rf (srcV h m j)) (5 + j) fln_L_190 (plc_at hj) rfl dL_goesOn_26 ?_
        rw [srcV_t oj]
        refine v_gFN (K := fun w => w) C Cxt.id (v := .int (nI (src m j))) (5 + (src m j)) fln_L_175 (plc_at hsj.1) rfl dL_goesOn_29 ?_
        refine v_aload_n C dL_goesOn_32 rfl ?_
        refine v_gFN (K := fun w => w) C Cxt.id (v := va_rf (srcV h m i)) (5 + i) fln_L_190 (plc_at hi) rfl dL_goesOn_33 ?_
        rw [srcV_t oi]
        refine v_gFN (K := fun w => w) C Cxt.id (v := .int (nI (src m i))) (5 + (src m i)) fln_L_175 (plc_at hsi.1) rfl dL_goesOn_36 ?_
        refine v_iconst (v := nI 1) C dL_goesOn_39 (by decide) ?_
        first | refine v_iaddN C dL_goesOn_40 ?_ | refine v_iadd C dL_goesOn_40 ?_
        first | refine v_icmp_neN C 48 dL_goesOn_41 (by decide) (by omega) (by omega) (fun c41 => ?_) (fun c41 => ?_) | refine v_icmp_ne C 48 dL_goesOn_41 (by decide) (fun c41 => ?_) (fun c41 => ?_)
        · refine v_iconst (v := nI 0) C dL_goesOn_48 (by decide) ?_
          refine v_iretG C F (by first | rfl | exact bI_nar _) dL_goesOn_49 (by first | omega | exact Nat.le_of_ble_eq_true rfl) (by first | omega | exact Nat.le_of_ble_eq_true rfl) rfl (List.Perm.refl _) ?_
          refine ⟨?_, rfl⟩
          unfold gonB
          first
          | (rw [(srcV_no.mp c4)]; rfl)
          | (rw [(srcV_no.mp c11)]; simp; done)
          | (rw [if_pos ⟨oj, oi, c22, by omega⟩]; rfl)
          | (rw [if_neg (fun z => by omega)]; rfl)
          | (rw [if_neg (fun z => c22 z.2.2.1)]; rfl)
          | (rw [if_neg (fun z => z.1 (srcV_no.mp c4))]; rfl)
          | (rw [if_neg (fun z => z.2.1 (srcV_no.mp c11))]; rfl)
        · refine v_iconst (v := nI 1) C dL_goesOn_44 (by decide) ?_
          refine v_goto C 49 dL_goesOn_45 (by decide) ?_
          refine v_iretG C F (by first | rfl | exact bI_nar _) dL_goesOn_49 (by first | omega | exact Nat.le_of_ble_eq_true rfl) (by first | omega | exact Nat.le_of_ble_eq_true rfl) rfl (List.Perm.refl _) ?_
          refine ⟨?_, rfl⟩
          unfold gonB
          first
          | (rw [(srcV_no.mp c4)]; rfl)
          | (rw [(srcV_no.mp c11)]; simp; done)
          | (rw [if_pos ⟨oj, oi, c22, by omega⟩]; rfl)
          | (rw [if_neg (fun z => by omega)]; rfl)
          | (rw [if_neg (fun z => c22 z.2.2.1)]; rfl)
          | (rw [if_neg (fun z => z.1 (srcV_no.mp c4))]; rfl)
          | (rw [if_neg (fun z => z.2.1 (srcV_no.mp c11))]; rfl)
set_option maxHeartbeats 16000000 in
theorem c_L_isLike {l : Launch} (hl : l.stackTraces = false) {κ : Kp} {g h : Nat → Nat} {n cM : Nat} {m : Mg} {e : Nat → Nat} {p : Int32} {u : Cg} (hG : GU m u) (hW : WM n cM m) (hI : LI n m) (n1 : ¬ n = 0) : CtG SS MM l κ yL_isLike cL_isLike 7 (some FieldType.boolean) 16 900 5400 [.ref (g 0), .ref (h 0)] (cS κ g u ++ lmW κ h n (m, e, p)) ri (fun r w => r = nI 1 ∧ ∃ u', GU m u' ∧ w = cS κ g u' ++ lmW κ h n (m, e, p)) (fun _ _ => False) := by
  refine CtG.of (own := RL) (by decide) rfl hl (by intro v hv; simp only [List.mem_cons, List.not_mem_nil, or_false] at hv; first | (rcases hv with rfl | rfl | rfl | rfl | rfl | rfl <;> rfl) | (rcases hv with rfl | rfl | rfl | rfl | rfl <;> rfl) | (rcases hv with rfl | rfl | rfl | rfl <;> rfl) | (rcases hv with rfl | rfl | rfl <;> rfl) | (rcases hv with rfl | rfl <;> rfl) | (subst hv; rfl) | exact hv.elim) (Nat.le_of_ble_eq_true rfl) (fun X hxl hxk C F NH hnm => ?_)
  subst hxl hxk
  show V X iW 0 [some (.ref (g 0)), some (.ref (h 0)), none, none, none, none, none] [] (cS (xK X) g u ++ lmW (xK X) h n (m, e, p)) 0 0
  obtain ⟨s, ⟨sT, mT⟩, rr, hh, sl, tx, L0, rfl, hH⟩ := hG
  have h14 := hI.1
  have hIM := hI.2.1.choose_spec.1.1
  have h31 : n < 2 ^ 31 := by omega
  refine v_aload_n C dL_isLike_0 rfl ?_
  refine v_kVi (K := fun w => w ++ lmW (xK X) h n (m, e, p)) C (Cxt.r _ Cxt.id) (c_X5_size hl) ym_X5_size ml_L_151 fix_cS cS_0 rfl rfl rfl dL_isLike_1 (by first | omega | exact Nat.le_of_ble_eq_true rfl) (by first | omega | exact Nat.le_of_ble_eq_true rfl) (by first | omega | exact Nat.le_of_ble_eq_true rfl) (Nat.le_of_ble_eq_true rfl) (fun _ _ hu => hu.elim) (fun r u hu => ?_)
  obtain ⟨rfl, rfl⟩ := hu
  rw [hW.2.1]
  refine v_aload_n C dL_isLike_4 rfl ?_
  refine v_gFN (K := fun w => cS (xK X) g ((s, m), (sT, mT), rr, hh, sl, tx) ++ w) C (Cxt.l _ Cxt.id) (v := .ref (h 1)) 0 fln_L_154 lm_0 rfl dL_isLike_5 ?_
  refine v_lenA (K := fun w => cS (xK X) g ((s, m), (sT, mT), rr, hh, sl, tx) ++ w) C (Cxt.l _ Cxt.id) (N := n) 3 1 rfl lm_1 rfl dL_isLike_8 ?_
  refine v_icmp_ne C 34 dL_isLike_9 (by decide) (fun c9 => ?_) (fun c9 => ?_)
  · exact absurd rfl c9
  · refine v_aload_n C dL_isLike_12 rfl ?_
    refine v_kVi (K := fun w => w ++ lmW (xK X) h n (m, e, p)) C (Cxt.r _ Cxt.id) (c_X5_owed hl (c := cM) hW) ym_X5_owed ml_L_136 fix_cS cS_0 rfl rfl rfl dL_isLike_13 (by first | omega | exact Nat.le_of_ble_eq_true rfl) (by first | omega | exact Nat.le_of_ble_eq_true rfl) (by first | omega | exact Nat.le_of_ble_eq_true rfl) (Nat.le_of_ble_eq_true rfl) (fun _ _ hu => (noU (cd_0 n1) hu.1).elim) (fun r u hu => ?_)
    obtain ⟨⟨-, rfl⟩, s, ⟨sT, mT⟩, rfl⟩ := hu
    refine v_aload_n C dL_isLike_16 rfl ?_
    refine v_gVi (K := fun w => cS (xK X) g ((s, m), (sT, mT), rr, hh, sl, tx) ++ w) C (Cxt.l _ Cxt.id) 0 (c_X7_owed hl h14) ym_X7_owed ml_L_160 lm_0 rfl rfl rfl dL_isLike_17 (by first | omega | exact Nat.le_of_ble_eq_true rfl) (by first | omega | exact Nat.le_of_ble_eq_true rfl) (by first | omega | exact Nat.le_of_ble_eq_true rfl) (Nat.le_of_ble_eq_true rfl) (fun _ _ hu => hu.elim) (fun r u hu => ?_)
    obtain ⟨rfl, rfl⟩ := hu
    refine v_icmp_ne C 34 dL_isLike_20 (by decide) (fun c20 => ?_) (fun c20 => ?_)
    · exact absurd rfl c20
    · refine v_aload_n C dL_isLike_23 rfl ?_
      refine v_kVi (K := fun w => w ++ lmW (xK X) h n (m, e, p)) C (Cxt.r _ Cxt.id) (c_X5_events hl) ym_X5_events ml_L_161 fix_cS cS_0 rfl rfl rfl dL_isLike_24 (by first | omega | exact Nat.le_of_ble_eq_true rfl) (by first | omega | exact Nat.le_of_ble_eq_true rfl) (by first | omega | exact Nat.le_of_ble_eq_true rfl) (Nat.le_of_ble_eq_true rfl) (fun _ _ hu => hu.elim) (fun r u hu => ?_)
      obtain ⟨rfl, rfl⟩ := hu
      refine v_aload_n C dL_isLike_27 rfl ?_
      refine v_gFN (K := fun w => cS (xK X) g ((s, m), (sT, mT), rr, hh, sl, tx) ++ w) C (Cxt.l _ Cxt.id) (v := .int (m 0 8)) 0 fln_L_164 lm_0 rfl dL_isLike_28 ?_
      refine v_icmp_eq C 36 dL_isLike_31 (by decide) (fun c31 => ?_) (fun c31 => ?_)
      · refine v_iconst (v := nI 0) C dL_isLike_36 (by decide) ?_
        refine v_istore_n C (lo2 := [some _, some _, some _, none, none, none, none]) dL_isLike_37 rfl (Nat.le_of_ble_eq_true rfl) rfl ?_
        refine v_iload_n C dL_isLike_38 rfl ?_
        refine v_iconst (v := nI 5) C dL_isLike_39 (by decide) ?_
        refine v_icmp_ge C 65 dL_isLike_40 (by decide) (fun c => absurd c (by decide)) (fun c40 => ?_)
        refine v_aload_n C dL_isLike_43 rfl ?_
        refine v_iload_n C dL_isLike_44 rfl ?_
        refine v_kVi (K := fun w => w ++ lmW (xK X) h n (m, e, p)) C (Cxt.r _ Cxt.id) (c_X5_setting hl (c := cM) hW) ym_X5_setting ml_L_33 fix_cS cS_0 rfl rfl rfl dL_isLike_45 (by first | omega | exact Nat.le_of_ble_eq_true rfl) (by first | omega | exact Nat.le_of_ble_eq_true rfl) (by first | omega | exact Nat.le_of_ble_eq_true rfl) (Nat.le_of_ble_eq_true rfl) (fun _ _ hu => (noA (cd_i n1 (by omega) (by omega) (by omega)) hu.1).elim) (fun r u hu => ?_)
        obtain ⟨⟨-, rfl⟩, s, ⟨sT, mT⟩, rfl⟩ := hu
        rw [tN_nI (by omega)]
        refine v_aload_n C dL_isLike_48 rfl ?_
        refine v_gFN (K := fun w => cS (xK X) g ((s, m), (sT, mT), rr, hh, sl, tx) ++ w) C (Cxt.l _ Cxt.id) (v := .ref (h 2)) 0 fln_L_168 lm_0 rfl dL_isLike_49 ?_
        refine v_iload_n C dL_isLike_52 rfl ?_
        refine v_gI (K := fun w => cS (xK X) g ((s, m), (sT, mT), rr, hh, sl, tx) ++ w) C (Cxt.l _ Cxt.id) (x := (m 5 0)) 2 lm_2 (by first | decide | omega) 0 (rfl) ?_ rfl dL_isLike_53 ?_
        · omega
        refine v_icmp_eq C 59 dL_isLike_54 (by decide) (fun c54 => ?_) (fun c54 => ?_)
        · first | refine v_iinc1 C (lo2 := [some _, some _, some _, none, none, none, none]) dL_isLike_59 rfl rfl rfl ?_ | refine v_iinc C (lo2 := [some _, some _, some _, none, none, none, none]) dL_isLike_59 rfl rfl rfl rfl ?_
          refine v_goto C 38 dL_isLike_62 (by decide) ?_
          refine v_iload_n C dL_isLike_38 rfl ?_
          refine v_iconst (v := nI 5) C dL_isLike_39 (by decide) ?_
          refine v_icmp_ge C 65 dL_isLike_40 (by decide) (fun c => absurd c (by decide)) (fun c40 => ?_)
          refine v_aload_n C dL_isLike_43 rfl ?_
          refine v_iload_n C dL_isLike_44 rfl ?_
          refine v_kVi (K := fun w => w ++ lmW (xK X) h n (m, e, p)) C (Cxt.r _ Cxt.id) (c_X5_setting hl (c := cM) hW) ym_X5_setting ml_L_33 fix_cS cS_0 rfl rfl rfl dL_isLike_45 (by first | omega | exact Nat.le_of_ble_eq_true rfl) (by first | omega | exact Nat.le_of_ble_eq_true rfl) (by first | omega | exact Nat.le_of_ble_eq_true rfl) (Nat.le_of_ble_eq_true rfl) (fun _ _ hu => (noA (cd_i n1 (by omega) (by omega) (by omega)) hu.1).elim) (fun r u hu => ?_)
          obtain ⟨⟨-, rfl⟩, s, ⟨sT, mT⟩, rfl⟩ := hu
          rw [tN_nI (by omega)]
          refine v_aload_n C dL_isLike_48 rfl ?_
          refine v_gFN (K := fun w => cS (xK X) g ((s, m), (sT, mT), rr, hh, sl, tx) ++ w) C (Cxt.l _ Cxt.id) (v := .ref (h 2)) 0 fln_L_168 lm_0 rfl dL_isLike_49 ?_
          refine v_iload_n C dL_isLike_52 rfl ?_
          refine v_gI (K := fun w => cS (xK X) g ((s, m), (sT, mT), rr, hh, sl, tx) ++ w) C (Cxt.l _ Cxt.id) (x := (m 5 1)) 2 lm_2 (by first | decide | omega) 1 (rfl) ?_ rfl dL_isLike_53 ?_
          · omega
          refine v_icmp_eq C 59 dL_isLike_54 (by decide) (fun c54 => ?_) (fun c54 => ?_)
          · first | refine v_iinc1 C (lo2 := [some _, some _, some _, none, none, none, none]) dL_isLike_59 rfl rfl rfl ?_ | refine v_iinc C (lo2 := [some _, some _, some _, none, none, none, none]) dL_isLike_59 rfl rfl rfl rfl ?_
            refine v_goto C 38 dL_isLike_62 (by decide) ?_
            refine v_iload_n C dL_isLike_38 rfl ?_
            refine v_iconst (v := nI 5) C dL_isLike_39 (by decide) ?_
            refine v_icmp_ge C 65 dL_isLike_40 (by decide) (fun c => absurd c (by decide)) (fun c40 => ?_)
            refine v_aload_n C dL_isLike_43 rfl ?_
            refine v_iload_n C dL_isLike_44 rfl ?_
            refine v_kVi (K := fun w => w ++ lmW (xK X) h n (m, e, p)) C (Cxt.r _ Cxt.id) (c_X5_setting hl (c := cM) hW) ym_X5_setting ml_L_33 fix_cS cS_0 rfl rfl rfl dL_isLike_45 (by first | omega | exact Nat.le_of_ble_eq_true rfl) (by first | omega | exact Nat.le_of_ble_eq_true rfl) (by first | omega | exact Nat.le_of_ble_eq_true rfl) (Nat.le_of_ble_eq_true rfl) (fun _ _ hu => (noA (cd_i n1 (by omega) (by omega) (by omega)) hu.1).elim) (fun r u hu => ?_)
            obtain ⟨⟨-, rfl⟩, s, ⟨sT, mT⟩, rfl⟩ := hu
            rw [tN_nI (by omega)]
            refine v_aload_n C dL_isLike_48 rfl ?_
            refine v_gFN (K := fun w => cS (xK X) g ((s, m), (sT, mT), rr, hh, sl, tx) ++ w) C (Cxt.l _ Cxt.id) (v := .ref (h 2)) 0 fln_L_168 lm_0 rfl dL_isLike_49 ?_
            refine v_iload_n C dL_isLike_52 rfl ?_
            refine v_gI (K := fun w => cS (xK X) g ((s, m), (sT, mT), rr, hh, sl, tx) ++ w) C (Cxt.l _ Cxt.id) (x := (m 5 2)) 2 lm_2 (by first | decide | omega) 2 (rfl) ?_ rfl dL_isLike_53 ?_
            · omega
            refine v_icmp_eq C 59 dL_isLike_54 (by decide) (fun c54 => ?_) (fun c54 => ?_)
            · first | refine v_iinc1 C (lo2 := [some _, some _, some _, none, none, none, none]) dL_isLike_59 rfl rfl rfl ?_ | refine v_iinc C (lo2 := [some _, some _, some _, none, none, none, none]) dL_isLike_59 rfl rfl rfl rfl ?_
              refine v_goto C 38 dL_isLike_62 (by decide) ?_
              refine v_iload_n C dL_isLike_38 rfl ?_
              refine v_iconst (v := nI 5) C dL_isLike_39 (by decide) ?_
              refine v_icmp_ge C 65 dL_isLike_40 (by decide) (fun c => absurd c (by decide)) (fun c40 => ?_)
              refine v_aload_n C dL_isLike_43 rfl ?_
              refine v_iload_n C dL_isLike_44 rfl ?_
              refine v_kVi (K := fun w => w ++ lmW (xK X) h n (m, e, p)) C (Cxt.r _ Cxt.id) (c_X5_setting hl (c := cM) hW) ym_X5_setting ml_L_33 fix_cS cS_0 rfl rfl rfl dL_isLike_45 (by first | omega | exact Nat.le_of_ble_eq_true rfl) (by first | omega | exact Nat.le_of_ble_eq_true rfl) (by first | omega | exact Nat.le_of_ble_eq_true rfl) (Nat.le_of_ble_eq_true rfl) (fun _ _ hu => (noA (cd_i n1 (by omega) (by omega) (by omega)) hu.1).elim) (fun r u hu => ?_)
              obtain ⟨⟨-, rfl⟩, s, ⟨sT, mT⟩, rfl⟩ := hu
              rw [tN_nI (by omega)]
              refine v_aload_n C dL_isLike_48 rfl ?_
              refine v_gFN (K := fun w => cS (xK X) g ((s, m), (sT, mT), rr, hh, sl, tx) ++ w) C (Cxt.l _ Cxt.id) (v := .ref (h 2)) 0 fln_L_168 lm_0 rfl dL_isLike_49 ?_
              refine v_iload_n C dL_isLike_52 rfl ?_
              refine v_gI (K := fun w => cS (xK X) g ((s, m), (sT, mT), rr, hh, sl, tx) ++ w) C (Cxt.l _ Cxt.id) (x := (m 5 3)) 2 lm_2 (by first | decide | omega) 3 (rfl) ?_ rfl dL_isLike_53 ?_
              · omega
              refine v_icmp_eq C 59 dL_isLike_54 (by decide) (fun c54 => ?_) (fun c54 => ?_)
              · first | refine v_iinc1 C (lo2 := [some _, some _, some _, none, none, none, none]) dL_isLike_59 rfl rfl rfl ?_ | refine v_iinc C (lo2 := [some _, some _, some _, none, none, none, none]) dL_isLike_59 rfl rfl rfl rfl ?_
                refine v_goto C 38 dL_isLike_62 (by decide) ?_
                refine v_iload_n C dL_isLike_38 rfl ?_
                refine v_iconst (v := nI 5) C dL_isLike_39 (by decide) ?_
                refine v_icmp_ge C 65 dL_isLike_40 (by decide) (fun c => absurd c (by decide)) (fun c40 => ?_)
                refine v_aload_n C dL_isLike_43 rfl ?_
                refine v_iload_n C dL_isLike_44 rfl ?_
                refine v_kVi (K := fun w => w ++ lmW (xK X) h n (m, e, p)) C (Cxt.r _ Cxt.id) (c_X5_setting hl (c := cM) hW) ym_X5_setting ml_L_33 fix_cS cS_0 rfl rfl rfl dL_isLike_45 (by first | omega | exact Nat.le_of_ble_eq_true rfl) (by first | omega | exact Nat.le_of_ble_eq_true rfl) (by first | omega | exact Nat.le_of_ble_eq_true rfl) (Nat.le_of_ble_eq_true rfl) (fun _ _ hu => (noA (cd_i n1 (by omega) (by omega) (by omega)) hu.1).elim) (fun r u hu => ?_)
                obtain ⟨⟨-, rfl⟩, s, ⟨sT, mT⟩, rfl⟩ := hu
                rw [tN_nI (by omega)]
                refine v_aload_n C dL_isLike_48 rfl ?_
                refine v_gFN (K := fun w => cS (xK X) g ((s, m), (sT, mT), rr, hh, sl, tx) ++ w) C (Cxt.l _ Cxt.id) (v := .ref (h 2)) 0 fln_L_168 lm_0 rfl dL_isLike_49 ?_
                refine v_iload_n C dL_isLike_52 rfl ?_
                refine v_gI (K := fun w => cS (xK X) g ((s, m), (sT, mT), rr, hh, sl, tx) ++ w) C (Cxt.l _ Cxt.id) (x := (m 5 4)) 2 lm_2 (by first | decide | omega) 4 (rfl) ?_ rfl dL_isLike_53 ?_
                · omega
                refine v_icmp_eq C 59 dL_isLike_54 (by decide) (fun c54 => ?_) (fun c54 => ?_)
                · first | refine v_iinc1 C (lo2 := [some _, some _, some _, none, none, none, none]) dL_isLike_59 rfl rfl rfl ?_ | refine v_iinc C (lo2 := [some _, some _, some _, none, none, none, none]) dL_isLike_59 rfl rfl rfl rfl ?_
                  refine v_goto C 38 dL_isLike_62 (by decide) ?_
                  refine v_iload_n C dL_isLike_38 rfl ?_
                  refine v_iconst (v := nI 5) C dL_isLike_39 (by decide) ?_
                  refine v_icmp_ge C 65 dL_isLike_40 (by decide) (fun c40 => ?_) (fun c => absurd c (by decide))
                  refine v_iconst (v := nI 0) C dL_isLike_65 (by decide) ?_
                  refine v_istore_n C (lo2 := [some _, some _, some _, none, none, none, none]) dL_isLike_66 rfl (Nat.le_of_ble_eq_true rfl) rfl ?_
                  refine v_iload_n C dL_isLike_67 rfl ?_
                  refine v_bipush (v := nI 9) C dL_isLike_68 (by decide) ?_
                  refine v_icmp_ge C 95 dL_isLike_70 (by decide) (fun c => absurd c (by decide)) (fun c70 => ?_)
                  refine v_aload_n C dL_isLike_73 rfl ?_
                  refine v_iload_n C dL_isLike_74 rfl ?_
                  refine v_kVi (K := fun w => w ++ lmW (xK X) h n (m, e, p)) C (Cxt.r _ Cxt.id) (c_X5_account hl (c := cM) hW) ym_X5_account ml_L_70 fix_cS cS_0 rfl rfl rfl dL_isLike_75 (by first | omega | exact Nat.le_of_ble_eq_true rfl) (by first | omega | exact Nat.le_of_ble_eq_true rfl) (by first | omega | exact Nat.le_of_ble_eq_true rfl) (Nat.le_of_ble_eq_true rfl) (fun _ _ hu => (noA (cd_i n1 (by omega) (by omega) (by omega)) hu.1).elim) (fun r u hu => ?_)
                  obtain ⟨⟨-, rfl⟩, s, ⟨sT, mT⟩, rfl⟩ := hu
                  rw [tN_nI (by omega)]
                  refine v_aload_n C dL_isLike_78 rfl ?_
                  refine v_gFN (K := fun w => cS (xK X) g ((s, m), (sT, mT), rr, hh, sl, tx) ++ w) C (Cxt.l _ Cxt.id) (v := .ref (h 3)) 0 fln_L_172 lm_0 rfl dL_isLike_79 ?_
                  refine v_iload_n C dL_isLike_82 rfl ?_
                  refine v_gI (K := fun w => cS (xK X) g ((s, m), (sT, mT), rr, hh, sl, tx) ++ w) C (Cxt.l _ Cxt.id) (x := (m 6 0)) 3 lm_3 (by first | decide | omega) 0 (rfl) ?_ rfl dL_isLike_83 ?_
                  · omega
                  refine v_icmp_eq C 89 dL_isLike_84 (by decide) (fun c84 => ?_) (fun c84 => ?_)
                  · first | refine v_iinc1 C (lo2 := [some _, some _, some _, none, none, none, none]) dL_isLike_89 rfl rfl rfl ?_ | refine v_iinc C (lo2 := [some _, some _, some _, none, none, none, none]) dL_isLike_89 rfl rfl rfl rfl ?_
                    refine v_goto C 67 dL_isLike_92 (by decide) ?_
                    refine v_iload_n C dL_isLike_67 rfl ?_
                    refine v_bipush (v := nI 9) C dL_isLike_68 (by decide) ?_
                    refine v_icmp_ge C 95 dL_isLike_70 (by decide) (fun c => absurd c (by decide)) (fun c70 => ?_)
                    refine v_aload_n C dL_isLike_73 rfl ?_
                    refine v_iload_n C dL_isLike_74 rfl ?_
                    refine v_kVi (K := fun w => w ++ lmW (xK X) h n (m, e, p)) C (Cxt.r _ Cxt.id) (c_X5_account hl (c := cM) hW) ym_X5_account ml_L_70 fix_cS cS_0 rfl rfl rfl dL_isLike_75 (by first | omega | exact Nat.le_of_ble_eq_true rfl) (by first | omega | exact Nat.le_of_ble_eq_true rfl) (by first | omega | exact Nat.le_of_ble_eq_true rfl) (Nat.le_of_ble_eq_true rfl) (fun _ _ hu => (noA (cd_i n1 (by omega) (by omega) (by omega)) hu.1).elim) (fun r u hu => ?_)
                    obtain ⟨⟨-, rfl⟩, s, ⟨sT, mT⟩, rfl⟩ := hu
                    rw [tN_nI (by omega)]
                    refine v_aload_n C dL_isLike_78 rfl ?_
                    refine v_gFN (K := fun w => cS (xK X) g ((s, m), (sT, mT), rr, hh, sl, tx) ++ w) C (Cxt.l _ Cxt.id) (v := .ref (h 3)) 0 fln_L_172 lm_0 rfl dL_isLike_79 ?_
                    refine v_iload_n C dL_isLike_82 rfl ?_
                    refine v_gI (K := fun w => cS (xK X) g ((s, m), (sT, mT), rr, hh, sl, tx) ++ w) C (Cxt.l _ Cxt.id) (x := (m 6 1)) 3 lm_3 (by first | decide | omega) 1 (rfl) ?_ rfl dL_isLike_83 ?_
                    · omega
                    refine v_icmp_eq C 89 dL_isLike_84 (by decide) (fun c84 => ?_) (fun c84 => ?_)
                    · first | refine v_iinc1 C (lo2 := [some _, some _, some _, none, none, none, none]) dL_isLike_89 rfl rfl rfl ?_ | refine v_iinc C (lo2 := [some _, some _, some _, none, none, none, none]) dL_isLike_89 rfl rfl rfl rfl ?_
                      refine v_goto C 67 dL_isLike_92 (by decide) ?_
                      refine v_iload_n C dL_isLike_67 rfl ?_
                      refine v_bipush (v := nI 9) C dL_isLike_68 (by decide) ?_
                      refine v_icmp_ge C 95 dL_isLike_70 (by decide) (fun c => absurd c (by decide)) (fun c70 => ?_)
                      refine v_aload_n C dL_isLike_73 rfl ?_
                      refine v_iload_n C dL_isLike_74 rfl ?_
                      refine v_kVi (K := fun w => w ++ lmW (xK X) h n (m, e, p)) C (Cxt.r _ Cxt.id) (c_X5_account hl (c := cM) hW) ym_X5_account ml_L_70 fix_cS cS_0 rfl rfl rfl dL_isLike_75 (by first | omega | exact Nat.le_of_ble_eq_true rfl) (by first | omega | exact Nat.le_of_ble_eq_true rfl) (by first | omega | exact Nat.le_of_ble_eq_true rfl) (Nat.le_of_ble_eq_true rfl) (fun _ _ hu => (noA (cd_i n1 (by omega) (by omega) (by omega)) hu.1).elim) (fun r u hu => ?_)
                      obtain ⟨⟨-, rfl⟩, s, ⟨sT, mT⟩, rfl⟩ := hu
                      rw [tN_nI (by omega)]
                      refine v_aload_n C dL_isLike_78 rfl ?_
                      refine v_gFN (K := fun w => cS (xK X) g ((s, m), (sT, mT), rr, hh, sl, tx) ++ w) C (Cxt.l _ Cxt.id) (v := .ref (h 3)) 0 fln_L_172 lm_0 rfl dL_isLike_79 ?_
                      refine v_iload_n C dL_isLike_82 rfl ?_
                      refine v_gI (K := fun w => cS (xK X) g ((s, m), (sT, mT), rr, hh, sl, tx) ++ w) C (Cxt.l _ Cxt.id) (x := (m 6 2)) 3 lm_3 (by first | decide | omega) 2 (rfl) ?_ rfl dL_isLike_83 ?_
                      · omega
                      refine v_icmp_eq C 89 dL_isLike_84 (by decide) (fun c84 => ?_) (fun c84 => ?_)
                      · first | refine v_iinc1 C (lo2 := [some _, some _, some _, none, none, none, none]) dL_isLike_89 rfl rfl rfl ?_ | refine v_iinc C (lo2 := [some _, some _, some _, none, none, none, none]) dL_isLike_89 rfl rfl rfl rfl ?_
                        refine v_goto C 67 dL_isLike_92 (by decide) ?_
                        refine v_iload_n C dL_isLike_67 rfl ?_
                        refine v_bipush (v := nI 9) C dL_isLike_68 (by decide) ?_
                        refine v_icmp_ge C 95 dL_isLike_70 (by decide) (fun c => absurd c (by decide)) (fun c70 => ?_)
                        refine v_aload_n C dL_isLike_73 rfl ?_
                        refine v_iload_n C dL_isLike_74 rfl ?_
                        refine v_kVi (K := fun w => w ++ lmW (xK X) h n (m, e, p)) C (Cxt.r _ Cxt.id) (c_X5_account hl (c := cM) hW) ym_X5_account ml_L_70 fix_cS cS_0 rfl rfl rfl dL_isLike_75 (by first | omega | exact Nat.le_of_ble_eq_true rfl) (by first | omega | exact Nat.le_of_ble_eq_true rfl) (by first | omega | exact Nat.le_of_ble_eq_true rfl) (Nat.le_of_ble_eq_true rfl) (fun _ _ hu => (noA (cd_i n1 (by omega) (by omega) (by omega)) hu.1).elim) (fun r u hu => ?_)
                        obtain ⟨⟨-, rfl⟩, s, ⟨sT, mT⟩, rfl⟩ := hu
                        rw [tN_nI (by omega)]
                        refine v_aload_n C dL_isLike_78 rfl ?_
                        refine v_gFN (K := fun w => cS (xK X) g ((s, m), (sT, mT), rr, hh, sl, tx) ++ w) C (Cxt.l _ Cxt.id) (v := .ref (h 3)) 0 fln_L_172 lm_0 rfl dL_isLike_79 ?_
                        refine v_iload_n C dL_isLike_82 rfl ?_
                        refine v_gI (K := fun w => cS (xK X) g ((s, m), (sT, mT), rr, hh, sl, tx) ++ w) C (Cxt.l _ Cxt.id) (x := (m 6 3)) 3 lm_3 (by first | decide | omega) 3 (rfl) ?_ rfl dL_isLike_83 ?_
                        · omega
                        refine v_icmp_eq C 89 dL_isLike_84 (by decide) (fun c84 => ?_) (fun c84 => ?_)
                        · first | refine v_iinc1 C (lo2 := [some _, some _, some _, none, none, none, none]) dL_isLike_89 rfl rfl rfl ?_ | refine v_iinc C (lo2 := [some _, some _, some _, none, none, none, none]) dL_isLike_89 rfl rfl rfl rfl ?_
                          refine v_goto C 67 dL_isLike_92 (by decide) ?_
                          refine v_iload_n C dL_isLike_67 rfl ?_
                          refine v_bipush (v := nI 9) C dL_isLike_68 (by decide) ?_
                          refine v_icmp_ge C 95 dL_isLike_70 (by decide) (fun c => absurd c (by decide)) (fun c70 => ?_)
                          refine v_aload_n C dL_isLike_73 rfl ?_
                          refine v_iload_n C dL_isLike_74 rfl ?_
                          refine v_kVi (K := fun w => w ++ lmW (xK X) h n (m, e, p)) C (Cxt.r _ Cxt.id) (c_X5_account hl (c := cM) hW) ym_X5_account ml_L_70 fix_cS cS_0 rfl rfl rfl dL_isLike_75 (by first | omega | exact Nat.le_of_ble_eq_true rfl) (by first | omega | exact Nat.le_of_ble_eq_true rfl) (by first | omega | exact Nat.le_of_ble_eq_true rfl) (Nat.le_of_ble_eq_true rfl) (fun _ _ hu => (noA (cd_i n1 (by omega) (by omega) (by omega)) hu.1).elim) (fun r u hu => ?_)
                          obtain ⟨⟨-, rfl⟩, s, ⟨sT, mT⟩, rfl⟩ := hu
                          rw [tN_nI (by omega)]
                          refine v_aload_n C dL_isLike_78 rfl ?_
                          refine v_gFN (K := fun w => cS (xK X) g ((s, m), (sT, mT), rr, hh, sl, tx) ++ w) C (Cxt.l _ Cxt.id) (v := .ref (h 3)) 0 fln_L_172 lm_0 rfl dL_isLike_79 ?_
                          refine v_iload_n C dL_isLike_82 rfl ?_
                          refine v_gI (K := fun w => cS (xK X) g ((s, m), (sT, mT), rr, hh, sl, tx) ++ w) C (Cxt.l _ Cxt.id) (x := (m 6 4)) 3 lm_3 (by first | decide | omega) 4 (rfl) ?_ rfl dL_isLike_83 ?_
                          · omega
                          refine v_icmp_eq C 89 dL_isLike_84 (by decide) (fun c84 => ?_) (fun c84 => ?_)
                          · first | refine v_iinc1 C (lo2 := [some _, some _, some _, none, none, none, none]) dL_isLike_89 rfl rfl rfl ?_ | refine v_iinc C (lo2 := [some _, some _, some _, none, none, none, none]) dL_isLike_89 rfl rfl rfl rfl ?_
                            refine v_goto C 67 dL_isLike_92 (by decide) ?_
                            refine v_iload_n C dL_isLike_67 rfl ?_
                            refine v_bipush (v := nI 9) C dL_isLike_68 (by decide) ?_
                            refine v_icmp_ge C 95 dL_isLike_70 (by decide) (fun c => absurd c (by decide)) (fun c70 => ?_)
                            refine v_aload_n C dL_isLike_73 rfl ?_
                            refine v_iload_n C dL_isLike_74 rfl ?_
                            refine v_kVi (K := fun w => w ++ lmW (xK X) h n (m, e, p)) C (Cxt.r _ Cxt.id) (c_X5_account hl (c := cM) hW) ym_X5_account ml_L_70 fix_cS cS_0 rfl rfl rfl dL_isLike_75 (by first | omega | exact Nat.le_of_ble_eq_true rfl) (by first | omega | exact Nat.le_of_ble_eq_true rfl) (by first | omega | exact Nat.le_of_ble_eq_true rfl) (Nat.le_of_ble_eq_true rfl) (fun _ _ hu => (noA (cd_i n1 (by omega) (by omega) (by omega)) hu.1).elim) (fun r u hu => ?_)
                            obtain ⟨⟨-, rfl⟩, s, ⟨sT, mT⟩, rfl⟩ := hu
                            rw [tN_nI (by omega)]
                            refine v_aload_n C dL_isLike_78 rfl ?_
                            refine v_gFN (K := fun w => cS (xK X) g ((s, m), (sT, mT), rr, hh, sl, tx) ++ w) C (Cxt.l _ Cxt.id) (v := .ref (h 3)) 0 fln_L_172 lm_0 rfl dL_isLike_79 ?_
                            refine v_iload_n C dL_isLike_82 rfl ?_
                            refine v_gI (K := fun w => cS (xK X) g ((s, m), (sT, mT), rr, hh, sl, tx) ++ w) C (Cxt.l _ Cxt.id) (x := (m 6 5)) 3 lm_3 (by first | decide | omega) 5 (rfl) ?_ rfl dL_isLike_83 ?_
                            · omega
                            refine v_icmp_eq C 89 dL_isLike_84 (by decide) (fun c84 => ?_) (fun c84 => ?_)
                            · first | refine v_iinc1 C (lo2 := [some _, some _, some _, none, none, none, none]) dL_isLike_89 rfl rfl rfl ?_ | refine v_iinc C (lo2 := [some _, some _, some _, none, none, none, none]) dL_isLike_89 rfl rfl rfl rfl ?_
                              refine v_goto C 67 dL_isLike_92 (by decide) ?_
                              refine v_iload_n C dL_isLike_67 rfl ?_
                              refine v_bipush (v := nI 9) C dL_isLike_68 (by decide) ?_
                              refine v_icmp_ge C 95 dL_isLike_70 (by decide) (fun c => absurd c (by decide)) (fun c70 => ?_)
                              refine v_aload_n C dL_isLike_73 rfl ?_
                              refine v_iload_n C dL_isLike_74 rfl ?_
                              refine v_kVi (K := fun w => w ++ lmW (xK X) h n (m, e, p)) C (Cxt.r _ Cxt.id) (c_X5_account hl (c := cM) hW) ym_X5_account ml_L_70 fix_cS cS_0 rfl rfl rfl dL_isLike_75 (by first | omega | exact Nat.le_of_ble_eq_true rfl) (by first | omega | exact Nat.le_of_ble_eq_true rfl) (by first | omega | exact Nat.le_of_ble_eq_true rfl) (Nat.le_of_ble_eq_true rfl) (fun _ _ hu => (noA (cd_i n1 (by omega) (by omega) (by omega)) hu.1).elim) (fun r u hu => ?_)
                              obtain ⟨⟨-, rfl⟩, s, ⟨sT, mT⟩, rfl⟩ := hu
                              rw [tN_nI (by omega)]
                              refine v_aload_n C dL_isLike_78 rfl ?_
                              refine v_gFN (K := fun w => cS (xK X) g ((s, m), (sT, mT), rr, hh, sl, tx) ++ w) C (Cxt.l _ Cxt.id) (v := .ref (h 3)) 0 fln_L_172 lm_0 rfl dL_isLike_79 ?_
                              refine v_iload_n C dL_isLike_82 rfl ?_
                              refine v_gI (K := fun w => cS (xK X) g ((s, m), (sT, mT), rr, hh, sl, tx) ++ w) C (Cxt.l _ Cxt.id) (x := (m 6 6)) 3 lm_3 (by first | decide | omega) 6 (rfl) ?_ rfl dL_isLike_83 ?_
                              · omega
                              refine v_icmp_eq C 89 dL_isLike_84 (by decide) (fun c84 => ?_) (fun c84 => ?_)
                              · first | refine v_iinc1 C (lo2 := [some _, some _, some _, none, none, none, none]) dL_isLike_89 rfl rfl rfl ?_ | refine v_iinc C (lo2 := [some _, some _, some _, none, none, none, none]) dL_isLike_89 rfl rfl rfl rfl ?_
                                refine v_goto C 67 dL_isLike_92 (by decide) ?_
                                refine v_iload_n C dL_isLike_67 rfl ?_
                                refine v_bipush (v := nI 9) C dL_isLike_68 (by decide) ?_
                                refine v_icmp_ge C 95 dL_isLike_70 (by decide) (fun c => absurd c (by decide)) (fun c70 => ?_)
                                refine v_aload_n C dL_isLike_73 rfl ?_
                                refine v_iload_n C dL_isLike_74 rfl ?_
                                refine v_kVi (K := fun w => w ++ lmW (xK X) h n (m, e, p)) C (Cxt.r _ Cxt.id) (c_X5_account hl (c := cM) hW) ym_X5_account ml_L_70 fix_cS cS_0 rfl rfl rfl dL_isLike_75 (by first | omega | exact Nat.le_of_ble_eq_true rfl) (by first | omega | exact Nat.le_of_ble_eq_true rfl) (by first | omega | exact Nat.le_of_ble_eq_true rfl) (Nat.le_of_ble_eq_true rfl) (fun _ _ hu => (noA (cd_i n1 (by omega) (by omega) (by omega)) hu.1).elim) (fun r u hu => ?_)
                                obtain ⟨⟨-, rfl⟩, s, ⟨sT, mT⟩, rfl⟩ := hu
                                rw [tN_nI (by omega)]
                                refine v_aload_n C dL_isLike_78 rfl ?_
                                refine v_gFN (K := fun w => cS (xK X) g ((s, m), (sT, mT), rr, hh, sl, tx) ++ w) C (Cxt.l _ Cxt.id) (v := .ref (h 3)) 0 fln_L_172 lm_0 rfl dL_isLike_79 ?_
                                refine v_iload_n C dL_isLike_82 rfl ?_
                                refine v_gI (K := fun w => cS (xK X) g ((s, m), (sT, mT), rr, hh, sl, tx) ++ w) C (Cxt.l _ Cxt.id) (x := (m 6 7)) 3 lm_3 (by first | decide | omega) 7 (rfl) ?_ rfl dL_isLike_83 ?_
                                · omega
                                refine v_icmp_eq C 89 dL_isLike_84 (by decide) (fun c84 => ?_) (fun c84 => ?_)
                                · first | refine v_iinc1 C (lo2 := [some _, some _, some _, none, none, none, none]) dL_isLike_89 rfl rfl rfl ?_ | refine v_iinc C (lo2 := [some _, some _, some _, none, none, none, none]) dL_isLike_89 rfl rfl rfl rfl ?_
                                  refine v_goto C 67 dL_isLike_92 (by decide) ?_
                                  refine v_iload_n C dL_isLike_67 rfl ?_
                                  refine v_bipush (v := nI 9) C dL_isLike_68 (by decide) ?_
                                  refine v_icmp_ge C 95 dL_isLike_70 (by decide) (fun c => absurd c (by decide)) (fun c70 => ?_)
                                  refine v_aload_n C dL_isLike_73 rfl ?_
                                  refine v_iload_n C dL_isLike_74 rfl ?_
                                  refine v_kVi (K := fun w => w ++ lmW (xK X) h n (m, e, p)) C (Cxt.r _ Cxt.id) (c_X5_account hl (c := cM) hW) ym_X5_account ml_L_70 fix_cS cS_0 rfl rfl rfl dL_isLike_75 (by first | omega | exact Nat.le_of_ble_eq_true rfl) (by first | omega | exact Nat.le_of_ble_eq_true rfl) (by first | omega | exact Nat.le_of_ble_eq_true rfl) (Nat.le_of_ble_eq_true rfl) (fun _ _ hu => (noA (cd_i n1 (by omega) (by omega) (by omega)) hu.1).elim) (fun r u hu => ?_)
                                  obtain ⟨⟨-, rfl⟩, s, ⟨sT, mT⟩, rfl⟩ := hu
                                  rw [tN_nI (by omega)]
                                  refine v_aload_n C dL_isLike_78 rfl ?_
                                  refine v_gFN (K := fun w => cS (xK X) g ((s, m), (sT, mT), rr, hh, sl, tx) ++ w) C (Cxt.l _ Cxt.id) (v := .ref (h 3)) 0 fln_L_172 lm_0 rfl dL_isLike_79 ?_
                                  refine v_iload_n C dL_isLike_82 rfl ?_
                                  refine v_gI (K := fun w => cS (xK X) g ((s, m), (sT, mT), rr, hh, sl, tx) ++ w) C (Cxt.l _ Cxt.id) (x := (m 6 8)) 3 lm_3 (by first | decide | omega) 8 (rfl) ?_ rfl dL_isLike_83 ?_
                                  · omega
                                  refine v_icmp_eq C 89 dL_isLike_84 (by decide) (fun c84 => ?_) (fun c84 => ?_)
                                  · first | refine v_iinc1 C (lo2 := [some _, some _, some _, none, none, none, none]) dL_isLike_89 rfl rfl rfl ?_ | refine v_iinc C (lo2 := [some _, some _, some _, none, none, none, none]) dL_isLike_89 rfl rfl rfl rfl ?_
                                    refine v_goto C 67 dL_isLike_92 (by decide) ?_
                                    refine v_iload_n C dL_isLike_67 rfl ?_
                                    refine v_bipush (v := nI 9) C dL_isLike_68 (by decide) ?_
                                    refine v_icmp_ge C 95 dL_isLike_70 (by decide) (fun c70 => ?_) (fun c => absurd c (by decide))
                                    refine v_aload_n C dL_isLike_95 rfl ?_
                                    refine v_gFN (K := fun w => cS (xK X) g ((s, m), (sT, mT), rr, hh, sl, tx) ++ w) C (Cxt.l _ Cxt.id) (v := .ref (h 1)) 0 fln_L_154 lm_0 rfl dL_isLike_96 ?_
                                    refine v_astore_n C (lo2 := [some _, some _, some _, none, none, none, none]) dL_isLike_99 rfl (Nat.le_of_ble_eq_true rfl) rfl ?_
                                    refine v_aload_n C dL_isLike_100 rfl ?_
                                    refine v_lenA (K := fun w => cS (xK X) g ((s, m), (sT, mT), rr, hh, sl, tx) ++ w) C (Cxt.l _ Cxt.id) (N := n) 3 1 rfl lm_1 rfl dL_isLike_101 ?_
                                    refine v_istore_n C (lo2 := [some _, some _, some _, some _, none, none, none]) dL_isLike_102 rfl (Nat.le_of_ble_eq_true rfl) rfl ?_
                                    refine v_iconst (v := nI 0) C dL_isLike_103 (by decide) ?_
                                    refine v_istore C (lo2 := [some _, some _, some _, some _, some _, none, none]) dL_isLike_104 rfl (Nat.le_of_ble_eq_true rfl) rfl ?_
                                    have L106 : ∀ (t : Nat × G × G × Mg), (fun t => t.1 ≤ n) t → (fun t : Nat × G × G × Mg => V X iW 106 [some (.ref (g 0)), some (.ref (h 0)), some (.ref (h 1)), some (.int (nI n)), some (.int (nI t.1)), none, none] [] (cS (xK X) g ((t.2.1, m), (t.2.2.1, t.2.2.2), rr, hh, sl, tx) ++ lmW (xK X) h n (m, e, p)) (100 + 42 * t.1) (600 + 252 * t.1)) t := by
                                      refine v_ind (fun t : Nat × G × G × Mg => n - t.1) ?_
                                      rintro ⟨i, s, sT, mT⟩ ih106 hI106
                                      try dsimp only at hI106 ⊢
                                      refine v_iload C dL_isLike_106 rfl ?_
                                      refine v_iload_n C dL_isLike_108 rfl ?_
                                      first | refine v_icmp_geN C 249 dL_isLike_109 (by decide) (by omega) (by omega) (fun c109 => ?_) (fun c109 => ?_) | refine v_icmp_ge C 249 dL_isLike_109 (by decide) (fun c109 => ?_) (fun c109 => ?_)
                                      · refine v_iconst (v := nI 1) C dL_isLike_249 (by decide) ?_
                                        refine v_iretG C F (by first | rfl | exact bI_nar _) dL_isLike_250 (by first | omega | exact Nat.le_of_ble_eq_true rfl) (by first | omega | exact Nat.le_of_ble_eq_true rfl) rfl (List.Perm.refl _) ?_
                                        exact ⟨rfl, _, ⟨s, (sT, mT), rr, hh, sl, tx, L0, rfl, hH⟩, rfl⟩
                                      · have hin : i < n := c109
                                        refine v_aload_n C dL_isLike_112 rfl ?_
                                        refine v_iload C dL_isLike_113 rfl ?_
                                        refine v_gP (K := fun w => cS (xK X) g ((s, m), (sT, mT), rr, hh, sl, tx) ++ w) C (Cxt.l _ Cxt.id) (x := (some (h (8 + i)))) 1 lm_1 (by first | decide | omega) i (if_pos (by omega)) ?_ rfl dL_isLike_115 ?_
                                        · omega
                                        refine v_astore C (lo2 := [some _, some _, some _, some _, some _, some _, none]) dL_isLike_116 rfl (Nat.le_of_ble_eq_true rfl) rfl ?_
                                        refine v_aload C dL_isLike_118 rfl ?_
                                        refine v_gFN (K := fun w => cS (xK X) g ((s, m), (sT, mT), rr, hh, sl, tx) ++ w) C (Cxt.l _ Cxt.id) (v := .int (nI i)) (5 + i) fln_L_175 (plc_at hin) rfl dL_isLike_120 ?_
                                        refine v_istore C (lo2 := [some _, some _, some _, some _, some _, some _, some _]) dL_isLike_123 rfl (Nat.le_of_ble_eq_true rfl) rfl ?_
                                        refine v_aload_n C dL_isLike_125 rfl ?_
                                        refine v_iload C dL_isLike_126 rfl ?_
                                        refine v_kVi (K := fun w => w ++ lmW (xK X) h n (m, e, p)) C (Cxt.r _ Cxt.id) (c_X5_stored hl (c := cM) hW) ym_X5_stored ml_L_180 fix_cS cS_0 rfl rfl rfl dL_isLike_128 (by first | omega | exact Nat.le_of_ble_eq_true rfl) (by first | omega | exact Nat.le_of_ble_eq_true rfl) (by first | omega | exact Nat.le_of_ble_eq_true rfl) (Nat.le_of_ble_eq_true rfl) (fun _ _ hu => (no3 (cd_p n1 hin h31) hu.1).elim) (fun r u hu => ?_)
                                        obtain ⟨⟨-, rfl⟩, s, ⟨sT, mT⟩, rfl⟩ := hu
                                        rw [tN_nI (by omega)]
                                        refine v_aload C dL_isLike_131 rfl ?_
                                        refine v_gFN (K := fun w => cS (xK X) g ((s, m), (sT, mT), rr, hh, sl, tx) ++ w) C (Cxt.l _ Cxt.id) (v := .int (m 1 i)) (5 + i) fln_L_183 (plc_at hin) rfl dL_isLike_133 ?_
                                        refine v_icmp_ne C 241 dL_isLike_136 (by decide) (fun c136 => ?_) (fun c136 => ?_)
                                        · exact absurd rfl c136
                                        · refine v_aload_n C dL_isLike_139 rfl ?_
                                          refine v_iload C dL_isLike_140 rfl ?_
                                          refine v_kVi (K := fun w => w ++ lmW (xK X) h n (m, e, p)) C (Cxt.r _ Cxt.id) (c_X5_value hl (c := cM) hW) ym_X5_value ml_L_36 fix_cS cS_0 rfl rfl rfl dL_isLike_142 (by first | omega | exact Nat.le_of_ble_eq_true rfl) (by first | omega | exact Nat.le_of_ble_eq_true rfl) (by first | omega | exact Nat.le_of_ble_eq_true rfl) (Nat.le_of_ble_eq_true rfl) (fun _ _ hu => (no3 (cd_p n1 hin h31) hu.1).elim) (fun r u hu => ?_)
                                          obtain ⟨⟨-, rfl⟩, s, ⟨sT, mT⟩, rfl⟩ := hu
                                          rw [tN_nI (by omega)]
                                          refine v_aload C dL_isLike_145 rfl ?_
                                          refine v_gVi (K := fun w => cS (xK X) g ((s, m), (sT, mT), rr, hh, sl, tx) ++ w) C (Cxt.l _ Cxt.id) (5 + i) (c_X8_value hl hIM h14 hin) ym_X8_value ml_L_185 (plc_at hin) rfl rfl rfl dL_isLike_147 (by first | omega | exact Nat.le_of_ble_eq_true rfl) (by first | omega | exact Nat.le_of_ble_eq_true rfl) (by first | omega | exact Nat.le_of_ble_eq_true rfl) (Nat.le_of_ble_eq_true rfl) (fun _ _ hu => hu.elim) (fun r u hu => ?_)
                                          obtain ⟨rfl, rfl⟩ := hu
                                          refine v_icmp_ne C 241 dL_isLike_150 (by decide) (fun c150 => ?_) (fun c150 => ?_)
                                          · exact absurd rfl c150
                                          · refine v_aload_n C dL_isLike_153 rfl ?_
                                            refine v_iload C dL_isLike_154 rfl ?_
                                            refine v_kVi (K := fun w => w ++ lmW (xK X) h n (m, e, p)) C (Cxt.r _ Cxt.id) (c_X5_source hl (c := cM) hW) ym_X5_source ml_L_187 fix_cS cS_0 rfl rfl rfl dL_isLike_156 (by first | omega | exact Nat.le_of_ble_eq_true rfl) (by first | omega | exact Nat.le_of_ble_eq_true rfl) (by first | omega | exact Nat.le_of_ble_eq_true rfl) (Nat.le_of_ble_eq_true rfl) (fun _ _ hu => (no3 (cd_p n1 hin h31) hu.1).elim) (fun r u hu => ?_)
                                            obtain ⟨⟨-, rfl⟩, s, ⟨sT, mT⟩, rfl⟩ := hu
                                            rw [tN_nI (by omega)]
                                            refine v_aload C dL_isLike_159 rfl ?_
                                            refine v_gFN (K := fun w => cS (xK X) g ((s, m), (sT, mT), rr, hh, sl, tx) ++ w) C (Cxt.l _ Cxt.id) (v := va_rf (srcV h m i)) (5 + i) fln_L_190 (plc_at hin) rfl dL_isLike_161 ?_
                                            refine v_ifnonnull C (x := (srcV h m i)) 171 dL_isLike_164 (by decide) (fun a164 c164 => ?_) (fun c164 => ?_)
                                            · have hno := (srcV_yes c164).1
                                              have hsr := IM_src hIM hin hno
                                              refine v_aload C dL_isLike_171 rfl ?_
                                              refine v_gFN (K := fun w => cS (xK X) g ((s, m), (sT, mT), rr, hh, sl, tx) ++ w) C (Cxt.l _ Cxt.id) (v := va_rf (srcV h m i)) (5 + i) fln_L_190 (plc_at hin) rfl dL_isLike_173 ?_
                                              rw [srcV_t hno]
                                              refine v_gFN (K := fun w => cS (xK X) g ((s, m), (sT, mT), rr, hh, sl, tx) ++ w) C (Cxt.l _ Cxt.id) (v := .int (nI (src m i))) (5 + (src m i)) fln_L_175 (plc_at hsr.1) rfl dL_isLike_176 ?_
                                              refine v_icmp_ne C 241 dL_isLike_179 (by decide) (fun c179 => ?_) (fun c179 => ?_)
                                              · exact absurd (src_at hIM hin hno) c179
                                              · refine v_aload_n C dL_isLike_182 rfl ?_
                                                refine v_iload C dL_isLike_183 rfl ?_
                                                refine v_kVi (K := fun w => w ++ lmW (xK X) h n (m, e, p)) C (Cxt.r _ Cxt.id) (c_X5_promise hl (c := cM) hW) ym_X5_promise ml_L_193 fix_cS cS_0 rfl rfl rfl dL_isLike_185 (by first | omega | exact Nat.le_of_ble_eq_true rfl) (by first | omega | exact Nat.le_of_ble_eq_true rfl) (by first | omega | exact Nat.le_of_ble_eq_true rfl) (Nat.le_of_ble_eq_true rfl) (fun _ _ hu => (no3 (cd_p n1 hin h31) hu.1).elim) (fun r u hu => ?_)
                                                obtain ⟨⟨-, rfl⟩, s, ⟨sT, mT⟩, rfl⟩ := hu
                                                rw [tN_nI (by omega)]
                                                refine v_aload C dL_isLike_188 rfl ?_
                                                refine v_gFN (K := fun w => cS (xK X) g ((s, m), (sT, mT), rr, hh, sl, tx) ++ w) C (Cxt.l _ Cxt.id) (v := .int (m 3 i)) (5 + i) fln_L_196 (plc_at hin) rfl dL_isLike_190 ?_
                                                refine v_icmp_ne C 241 dL_isLike_193 (by decide) (fun c193 => ?_) (fun c193 => ?_)
                                                · exact absurd rfl c193
                                                · refine v_aload_n C dL_isLike_196 rfl ?_
                                                  refine v_iload C dL_isLike_197 rfl ?_
                                                  refine v_kVi (K := fun w => w ++ lmW (xK X) h n (m, e, p)) C (Cxt.r _ Cxt.id) (c_X5_isLocked hl (c := cM) hW) ym_X5_isLocked ml_L_198 fix_cS cS_0 rfl rfl rfl dL_isLike_199 (by first | omega | exact Nat.le_of_ble_eq_true rfl) (by first | omega | exact Nat.le_of_ble_eq_true rfl) (by first | omega | exact Nat.le_of_ble_eq_true rfl) (Nat.le_of_ble_eq_true rfl) (fun _ _ hu => (no3 (cd_p n1 hin h31) hu.1).elim) (fun r u hu => ?_)
                                                  obtain ⟨⟨-, rfl⟩, s, ⟨sT, mT⟩, rfl⟩ := hu
                                                  rw [tN_nI (by omega)]
                                                  refine v_aload C dL_isLike_202 rfl ?_
                                                  refine v_gFN (K := fun w => cS (xK X) g ((s, m), (sT, mT), rr, hh, sl, tx) ++ w) C (Cxt.l _ Cxt.id) (v := .int (m 4 i)) (5 + i) fln_L_202 (plc_at hin) rfl dL_isLike_204 ?_
                                                  refine v_icmp_ne C 241 dL_isLike_207 (by decide) (fun c207 => ?_) (fun c207 => ?_)
                                                  · exact absurd (hI.lk i hin).symm c207
                                                  · refine v_aload_n C dL_isLike_210 rfl ?_
                                                    refine v_iload C dL_isLike_211 rfl ?_
                                                    refine v_kVi (K := fun w => w ++ lmW (xK X) h n (m, e, p)) C (Cxt.r _ Cxt.id) (c_X5_hops hl (c := cM) hW) ym_X5_hops ml_L_206 fix_cS cS_0 rfl rfl rfl dL_isLike_213 (by first | omega | exact Nat.le_of_ble_eq_true rfl) (by first | omega | exact Nat.le_of_ble_eq_true rfl) (by first | omega | exact Nat.le_of_ble_eq_true rfl) (Nat.le_of_ble_eq_true rfl) (fun _ _ hu => (no3 (cd_p n1 hin h31) hu.1).elim) (fun r u hu => ?_)
                                                    obtain ⟨⟨-, rfl⟩, s, ⟨sT, mT⟩, rfl⟩ := hu
                                                    rw [tN_nI (by omega)]
                                                    refine v_aload C dL_isLike_216 rfl ?_
                                                    refine v_gVi (K := fun w => cS (xK X) g ((s, m), (sT, mT), rr, hh, sl, tx) ++ w) C (Cxt.l _ Cxt.id) (5 + i) (c_X8_hops hl hIM h14 hin) ym_X8_hops ml_L_209 (plc_at hin) rfl rfl rfl dL_isLike_218 (by first | omega | exact Nat.le_of_ble_eq_true rfl) (by first | omega | exact Nat.le_of_ble_eq_true rfl) (by first | omega | exact Nat.le_of_ble_eq_true rfl) (Nat.le_of_ble_eq_true rfl) (fun _ _ hu => hu.elim) (fun r u hu => ?_)
                                                    obtain ⟨rfl, rfl⟩ := hu
                                                    refine v_icmp_ne C 241 dL_isLike_221 (by decide) (fun c221 => ?_) (fun c221 => ?_)
                                                    · exact absurd rfl c221
                                                    · refine v_aload_n C dL_isLike_224 rfl ?_
                                                      refine v_iload C dL_isLike_225 rfl ?_
                                                      refine v_kVi (K := fun w => w ++ lmW (xK X) h n (m, e, p)) C (Cxt.r _ Cxt.id) (c_X5_root hl (c := cM) hW) ym_X5_root ml_L_211 fix_cS cS_0 rfl rfl rfl dL_isLike_227 (by first | omega | exact Nat.le_of_ble_eq_true rfl) (by first | omega | exact Nat.le_of_ble_eq_true rfl) (by first | omega | exact Nat.le_of_ble_eq_true rfl) (Nat.le_of_ble_eq_true rfl) (fun _ _ hu => (no3 (cd_p n1 hin h31) hu.1).elim) (fun r u hu => ?_)
                                                      obtain ⟨⟨-, rfl⟩, s, ⟨sT, mT⟩, rfl⟩ := hu
                                                      rw [tN_nI (by omega)]
                                                      refine v_aload C dL_isLike_230 rfl ?_
                                                      refine v_gVr (K := fun w => cS (xK X) g ((s, m), (sT, mT), rr, hh, sl, tx) ++ w) C (Cxt.l _ Cxt.id) (5 + i) (c_X8_root hl hIM h14 hin) ym_X8_root ml_L_214 (plc_at hin) rfl rfl rfl dL_isLike_232 (by first | omega | exact Nat.le_of_ble_eq_true rfl) (by first | omega | exact Nat.le_of_ble_eq_true rfl) (by first | omega | exact Nat.le_of_ble_eq_true rfl) (Nat.le_of_ble_eq_true rfl) (fun _ _ hu => hu.elim) (fun r u hu => ?_)
                                                      obtain ⟨rfl, rfl⟩ := hu
                                                      refine v_gFN (K := fun w => cS (xK X) g ((s, m), (sT, mT), rr, hh, sl, tx) ++ w) C (Cxt.l _ Cxt.id) (v := .int (nI (rootM m i))) (5 + (rootM m i)) fln_L_175 (plc_at (root_end hIM i hin).1) rfl dL_isLike_235 ?_
                                                      refine v_icmp_eq C 243 dL_isLike_238 (by decide) (fun c238 => ?_) (fun c238 => ?_)
                                                      · first | refine v_iinc1 C (lo2 := [some _, some _, some _, some _, some _, some _, some _]) dL_isLike_243 rfl rfl rfl ?_ | refine v_iinc C (lo2 := [some _, some _, some _, some _, some _, some _, some _]) dL_isLike_243 rfl rfl rfl rfl ?_
                                                        refine v_goto C 106 dL_isLike_246 (by decide) ?_
                                                        refine V.sub (lo2 := [some _, some _, some _, some _, some _, none, none]) ⟨rfl, rfl, rfl, rfl, rfl, trivial⟩ ?_
                                                        refine V.wid (k2 := 100 + 42 * (i + 1)) (n2 := 600 + 252 * (i + 1)) (by omega) (by omega) ?_
                                                        exact ih106 (i + 1, s, sT, mT) (by show n - (i + 1) < n - i; omega) (by show i + 1 ≤ n; omega)
                                                      · exact absurd rfl c238
                                            · refine v_iconst (v := (-1)) C dL_isLike_167 (by decide) ?_
                                              refine v_goto C 179 dL_isLike_168 (by decide) ?_
                                              refine v_icmp_ne C 241 dL_isLike_179 (by decide) (fun c179 => ?_) (fun c179 => ?_)
                                              · exact absurd (srcV_no.mp c164) c179
                                              · refine v_aload_n C dL_isLike_182 rfl ?_
                                                refine v_iload C dL_isLike_183 rfl ?_
                                                refine v_kVi (K := fun w => w ++ lmW (xK X) h n (m, e, p)) C (Cxt.r _ Cxt.id) (c_X5_promise hl (c := cM) hW) ym_X5_promise ml_L_193 fix_cS cS_0 rfl rfl rfl dL_isLike_185 (by first | omega | exact Nat.le_of_ble_eq_true rfl) (by first | omega | exact Nat.le_of_ble_eq_true rfl) (by first | omega | exact Nat.le_of_ble_eq_true rfl) (Nat.le_of_ble_eq_true rfl) (fun _ _ hu => (no3 (cd_p n1 hin h31) hu.1).elim) (fun r u hu => ?_)
                                                obtain ⟨⟨-, rfl⟩, s, ⟨sT, mT⟩, rfl⟩ := hu
                                                rw [tN_nI (by omega)]
                                                refine v_aload C dL_isLike_188 rfl ?_
                                                refine v_gFN (K := fun w => cS (xK X) g ((s, m), (sT, mT), rr, hh, sl, tx) ++ w) C (Cxt.l _ Cxt.id) (v := .int (m 3 i)) (5 + i) fln_L_196 (plc_at hin) rfl dL_isLike_190 ?_
                                                refine v_icmp_ne C 241 dL_isLike_193 (by decide) (fun c193 => ?_) (fun c193 => ?_)
                                                · exact absurd rfl c193
                                                · refine v_aload_n C dL_isLike_196 rfl ?_
                                                  refine v_iload C dL_isLike_197 rfl ?_
                                                  refine v_kVi (K := fun w => w ++ lmW (xK X) h n (m, e, p)) C (Cxt.r _ Cxt.id) (c_X5_isLocked hl (c := cM) hW) ym_X5_isLocked ml_L_198 fix_cS cS_0 rfl rfl rfl dL_isLike_199 (by first | omega | exact Nat.le_of_ble_eq_true rfl) (by first | omega | exact Nat.le_of_ble_eq_true rfl) (by first | omega | exact Nat.le_of_ble_eq_true rfl) (Nat.le_of_ble_eq_true rfl) (fun _ _ hu => (no3 (cd_p n1 hin h31) hu.1).elim) (fun r u hu => ?_)
                                                  obtain ⟨⟨-, rfl⟩, s, ⟨sT, mT⟩, rfl⟩ := hu
                                                  rw [tN_nI (by omega)]
                                                  refine v_aload C dL_isLike_202 rfl ?_
                                                  refine v_gFN (K := fun w => cS (xK X) g ((s, m), (sT, mT), rr, hh, sl, tx) ++ w) C (Cxt.l _ Cxt.id) (v := .int (m 4 i)) (5 + i) fln_L_202 (plc_at hin) rfl dL_isLike_204 ?_
                                                  refine v_icmp_ne C 241 dL_isLike_207 (by decide) (fun c207 => ?_) (fun c207 => ?_)
                                                  · exact absurd (hI.lk i hin).symm c207
                                                  · refine v_aload_n C dL_isLike_210 rfl ?_
                                                    refine v_iload C dL_isLike_211 rfl ?_
                                                    refine v_kVi (K := fun w => w ++ lmW (xK X) h n (m, e, p)) C (Cxt.r _ Cxt.id) (c_X5_hops hl (c := cM) hW) ym_X5_hops ml_L_206 fix_cS cS_0 rfl rfl rfl dL_isLike_213 (by first | omega | exact Nat.le_of_ble_eq_true rfl) (by first | omega | exact Nat.le_of_ble_eq_true rfl) (by first | omega | exact Nat.le_of_ble_eq_true rfl) (Nat.le_of_ble_eq_true rfl) (fun _ _ hu => (no3 (cd_p n1 hin h31) hu.1).elim) (fun r u hu => ?_)
                                                    obtain ⟨⟨-, rfl⟩, s, ⟨sT, mT⟩, rfl⟩ := hu
                                                    rw [tN_nI (by omega)]
                                                    refine v_aload C dL_isLike_216 rfl ?_
                                                    refine v_gVi (K := fun w => cS (xK X) g ((s, m), (sT, mT), rr, hh, sl, tx) ++ w) C (Cxt.l _ Cxt.id) (5 + i) (c_X8_hops hl hIM h14 hin) ym_X8_hops ml_L_209 (plc_at hin) rfl rfl rfl dL_isLike_218 (by first | omega | exact Nat.le_of_ble_eq_true rfl) (by first | omega | exact Nat.le_of_ble_eq_true rfl) (by first | omega | exact Nat.le_of_ble_eq_true rfl) (Nat.le_of_ble_eq_true rfl) (fun _ _ hu => hu.elim) (fun r u hu => ?_)
                                                    obtain ⟨rfl, rfl⟩ := hu
                                                    refine v_icmp_ne C 241 dL_isLike_221 (by decide) (fun c221 => ?_) (fun c221 => ?_)
                                                    · exact absurd rfl c221
                                                    · refine v_aload_n C dL_isLike_224 rfl ?_
                                                      refine v_iload C dL_isLike_225 rfl ?_
                                                      refine v_kVi (K := fun w => w ++ lmW (xK X) h n (m, e, p)) C (Cxt.r _ Cxt.id) (c_X5_root hl (c := cM) hW) ym_X5_root ml_L_211 fix_cS cS_0 rfl rfl rfl dL_isLike_227 (by first | omega | exact Nat.le_of_ble_eq_true rfl) (by first | omega | exact Nat.le_of_ble_eq_true rfl) (by first | omega | exact Nat.le_of_ble_eq_true rfl) (Nat.le_of_ble_eq_true rfl) (fun _ _ hu => (no3 (cd_p n1 hin h31) hu.1).elim) (fun r u hu => ?_)
                                                      obtain ⟨⟨-, rfl⟩, s, ⟨sT, mT⟩, rfl⟩ := hu
                                                      rw [tN_nI (by omega)]
                                                      refine v_aload C dL_isLike_230 rfl ?_
                                                      refine v_gVr (K := fun w => cS (xK X) g ((s, m), (sT, mT), rr, hh, sl, tx) ++ w) C (Cxt.l _ Cxt.id) (5 + i) (c_X8_root hl hIM h14 hin) ym_X8_root ml_L_214 (plc_at hin) rfl rfl rfl dL_isLike_232 (by first | omega | exact Nat.le_of_ble_eq_true rfl) (by first | omega | exact Nat.le_of_ble_eq_true rfl) (by first | omega | exact Nat.le_of_ble_eq_true rfl) (Nat.le_of_ble_eq_true rfl) (fun _ _ hu => hu.elim) (fun r u hu => ?_)
                                                      obtain ⟨rfl, rfl⟩ := hu
                                                      refine v_gFN (K := fun w => cS (xK X) g ((s, m), (sT, mT), rr, hh, sl, tx) ++ w) C (Cxt.l _ Cxt.id) (v := .int (nI (rootM m i))) (5 + (rootM m i)) fln_L_175 (plc_at (root_end hIM i hin).1) rfl dL_isLike_235 ?_
                                                      refine v_icmp_eq C 243 dL_isLike_238 (by decide) (fun c238 => ?_) (fun c238 => ?_)
                                                      · first | refine v_iinc1 C (lo2 := [some _, some _, some _, some _, some _, some _, some _]) dL_isLike_243 rfl rfl rfl ?_ | refine v_iinc C (lo2 := [some _, some _, some _, some _, some _, some _, some _]) dL_isLike_243 rfl rfl rfl rfl ?_
                                                        refine v_goto C 106 dL_isLike_246 (by decide) ?_
                                                        refine V.sub (lo2 := [some _, some _, some _, some _, some _, none, none]) ⟨rfl, rfl, rfl, rfl, rfl, trivial⟩ ?_
                                                        refine V.wid (k2 := 100 + 42 * (i + 1)) (n2 := 600 + 252 * (i + 1)) (by omega) (by omega) ?_
                                                        exact ih106 (i + 1, s, sT, mT) (by show n - (i + 1) < n - i; omega) (by show i + 1 ≤ n; omega)
                                                      · exact absurd rfl c238
                                    refine V.wid (k2 := 100 + 42 * 0) (n2 := 600 + 252 * 0) (by omega) (by omega) ?_
                                    exact L106 (0, s, sT, mT) (Nat.zero_le _)
                                  · exact absurd rfl c84
                                · exact absurd rfl c84
                              · exact absurd rfl c84
                            · exact absurd rfl c84
                          · exact absurd rfl c84
                        · exact absurd rfl c84
                      · exact absurd rfl c84
                    · exact absurd rfl c84
                  · exact absurd rfl c84
                · exact absurd rfl c54
              · exact absurd rfl c54
            · exact absurd rfl c54
          · exact absurd rfl c54
        · exact absurd rfl c54
      · exact absurd rfl c31
