/-! a row alone, and how a library fills it -/
abbrev rowS (κ : Kp) (a n : Nat) (f : Nat → Int32) : va_W := [cI κ a n f]
theorem emb_row {κ : Kp} {σ : Type} {Wd : σ → va_W} {c a n : Nat} {get : σ → Nat → Int32} {set : σ → (Nat → Int32) → σ} (F : FixW Wd) (Q : AI κ Wd c a n get set) : Emb Wd (rowS κ a n) get set [c] := ⟨F, by simp, fun g => by rw [List.map_cons, (Q g).1]; rfl, fun g u => ⟨rfl, ((Q g).2 u).symm⟩⟩
theorem ar_row {κ : Kp} {a n : Nat} : AI κ (rowS κ a n) 0 a n (fun f => f) (fun _ f => f) := fun _ => ⟨rfl, fun _ => rfl⟩
theorem mix_0 {f g : Nat → Int32} : mix 0 f g = g := funext fun k => if_neg (Nat.not_lt_zero k)
theorem mix_s {n : Nat} {f g : Nat → Int32} : upd (mix n f g) n (f n) = mix (n + 1) f g := by
  funext k
  unfold upd mix
  by_cases h : k = n
  · subst h; rw [if_pos rfl, if_pos (by omega)]
  · rw [if_neg h]
    by_cases h2 : k < n
    · rw [if_pos h2, if_pos (by omega)]
    · rw [if_neg h2, if_neg (by omega)]
theorem mix_in {n k : Nat} {f g : Nat → Int32} (h : k < n) : mix n f g k = f k := if_pos h
theorem sG_id {g : G} {c : Nat} {f : Nat → Int32} (h : g c = f) : sG g c f = g := by
  funext k
  unfold sG
  by_cases e : k = c
  · rw [if_pos e, e, h]
  · rw [if_neg e]
theorem sG_sG {g : G} {c : Nat} {f f2 : Nat → Int32} : sG (sG g c f) c f2 = sG g c f2 := by
  funext k
  unfold sG
  by_cases e : k = c
  · rw [if_pos e, if_pos e]
  · rw [if_neg e, if_neg e, if_neg e]
theorem c_J7_fill {l : Launch} (hl : l.stackTraces = false) {κ : Kp} {a n : Nat} {f : Nat → Int32} {v : Int32} (hn : n < 2 ^ 31) : Ct SS MM l κ yJ7_fill_53178 cJ7_fill_53178 4 none 0 0 0 [.ref a, .int v] (rowS κ a n) f rv (fun _ u => u = mix n (fun _ => v) f) (fun _ _ => False) := by
  refine Ct.of (own := RJ7) (by decide) rfl hl (by intro v hv; simp only [List.mem_cons, List.not_mem_nil, or_false] at hv; rcases hv with rfl | rfl <;> rfl) (Nat.le_of_ble_eq_true rfl) (fun X hxl hxk C F N => ?_)
  subst hxl hxk
  show V X (rowS (xK X) a n) 0 [some (.ref a), some (.int v), none, none] [] f 0 0
  refine v_iconst (v := nI 0) C dJ7_fill_53178_0 (by decide) ?_
  refine v_istore_n C (lo2 := [some _, some _, some _, none]) dJ7_fill_53178_1 rfl (Nat.le_of_ble_eq_true rfl) rfl ?_
  refine v_aload_n C dJ7_fill_53178_2 rfl ?_
  refine v_alen C ar_row dJ7_fill_53178_3 ?_
  refine v_istore_n C (lo2 := [some _, some _, some _, some _]) dJ7_fill_53178_4 rfl (Nat.le_of_ble_eq_true rfl) rfl ?_
  have L : ∀ (t : Nat), t ≤ n → V X (rowS (xK X) a n) 5 [some (.ref a), some (.int v), some (.int (nI t)), some (.int (nI n))] [] (mix t (fun _ => v) f) 0 0 := by
    refine v_ind (fun t => n - t) ?_
    intro t ih hI
    refine v_iload_n C dJ7_fill_53178_5 rfl ?_
    refine v_iload_n C dJ7_fill_53178_6 rfl ?_
    refine v_icmp_geN C 20 dJ7_fill_53178_7 (by decide) (by omega) (by omega) (fun c7 => ?_) (fun c7 => ?_)
    · refine v_vret C F dJ7_fill_53178_20 (Nat.le_of_ble_eq_true rfl) (Nat.le_of_ble_eq_true rfl) ?_
      rw [show t = n by omega]
    refine v_aload_n C dJ7_fill_53178_10 rfl ?_
    refine v_iload_n C dJ7_fill_53178_11 rfl ?_
    refine v_iload_n C dJ7_fill_53178_12 rfl ?_
    refine v_iast C ar_row hn t (by omega) rfl dJ7_fill_53178_13 ?_
    refine v_iinc1 C (lo2 := [some _, some _, some _, some _]) dJ7_fill_53178_14 rfl rfl rfl ?_
    refine v_goto C 5 dJ7_fill_53178_17 (by decide) ?_
    have := ih (t + 1) (by show n - (t + 1) < n - t; omega) (by omega)
    rw [← mix_s] at this
    exact this
  have := L 0 (by omega)
  rw [mix_0] at this
  exact this
set_option maxHeartbeats 16000000 in
theorem c_X2_refusalOf {l : Launch} (hl : l.stackTraces = false) {κ : Kp} {h : Nat → Nat} {g : Mg} {fr to_ len : Int32} {n : Nat} (hn : g 0 7 = nI n) (h96 : n ≤ 96) : Ct SS MM l κ yX2_refusalOf cX2_refusalOf 4 (some FieldType.int) 2 0 0 [.ref (h 0), .int fr, .int to_, .int len] (mS κ h) g ri (fun r u => r = refM g n fr to_ len ∧ u = g) (fun _ _ => False) := by
  refine Ct.of (own := RX2) (by decide) rfl hl (by intro v hv; simp only [List.mem_cons, List.not_mem_nil, or_false] at hv; first | (rcases hv with rfl | rfl | rfl | rfl | rfl | rfl <;> rfl) | (rcases hv with rfl | rfl | rfl | rfl | rfl <;> rfl) | (rcases hv with rfl | rfl | rfl | rfl <;> rfl) | (rcases hv with rfl | rfl | rfl <;> rfl) | (rcases hv with rfl | rfl <;> rfl) | (subst hv; rfl) | exact hv.elim) (Nat.le_of_ble_eq_true rfl) (fun X hxl hxk C F N => ?_)
  subst hxl hxk
  show V X (mS (xK X) h) 0 [some (.ref (h 0)), some (.int fr), some (.int to_), some (.int len)] [] g 0 0
  have en := nI_toInt (n := n) (by omega)
  rw [← hn] at en
  have e1 := nI_toInt (n := 1) (by omega)
  refine v_iload_n C dX2_refusalOf_0 rfl ?_
  refine v_iconst (v := nI 1) C dX2_refusalOf_1 (by decide) ?_
  refine v_icmp_ge C 7 dX2_refusalOf_2 (by decide) (fun c2 => ?_) (fun c2 => ?_)
  · rw [e1] at c2
    refine v_aload_n C dX2_refusalOf_7 rfl ?_
    refine v_iload_n C dX2_refusalOf_8 rfl ?_
    refine v_iload_n C dX2_refusalOf_9 rfl ?_
    refine v_callVi C (c_X2_hasRow hl (n := n) ?_ ?_) ym_X2_hasRow ml_X2_71 emb_id_mS rfl rfl rfl rfl rfl dX2_refusalOf_10 (Nat.le_of_ble_eq_true rfl) (Nat.le_of_ble_eq_true rfl) (Nat.le_of_ble_eq_true rfl) (Nat.le_of_ble_eq_true rfl) (fun _ _ hu => hu.elim) (fun r u hu => ?_)
    · first | assumption | omega
    · first | assumption | omega
    obtain ⟨rfl, hu⟩ := hu
    subst u
    refine v_if_eqB C 25 dX2_refusalOf_13 (by decide) (fun c13 => ?_) (fun c13 => ?_)
    · refine v_iconst (v := nI 2) C dX2_refusalOf_25 (by decide) ?_
      refine v_iret C F (by first | rfl | exact bI_nar _) dX2_refusalOf_26 (Nat.le_of_ble_eq_true rfl) (Nat.le_of_ble_eq_true rfl) ?_
      refine ⟨?_, rfl⟩
      unfold refM
      rw [if_neg (by omega), c13]
      first
      | rfl
      | (rw [c22]; rfl)
    · refine v_aload_n C dX2_refusalOf_16 rfl ?_
      refine v_iload_n C dX2_refusalOf_17 rfl ?_
      refine v_iload_n C dX2_refusalOf_18 rfl ?_
      refine v_callVi C (c_X2_hasRow hl (n := n) ?_ ?_) ym_X2_hasRow ml_X2_71 emb_id_mS rfl rfl rfl rfl rfl dX2_refusalOf_19 (Nat.le_of_ble_eq_true rfl) (Nat.le_of_ble_eq_true rfl) (Nat.le_of_ble_eq_true rfl) (Nat.le_of_ble_eq_true rfl) (fun _ _ hu => hu.elim) (fun r u hu => ?_)
      · first | assumption | omega
      · first | assumption | omega
      obtain ⟨rfl, hu⟩ := hu
      subst u
      refine v_if_neB C 27 dX2_refusalOf_22 (by decide) (fun c22 => ?_) (fun c22 => ?_)
      · have q22 := c22
        simp only [isP, Bool.and_eq_true, decide_eq_true_eq] at q22
        have eto := (nI_of_nonneg (x := to_) (by omega)).1
        have eln := (nI_of_nonneg (x := len) (by omega)).1
        have b1 : 1 ≤ len.toInt.toNat := by omega
        have b2 : to_.toInt.toNat + len.toInt.toNat ≤ n := by omega
        generalize ht : to_.toInt.toNat = a at eto b2
        generalize hle : len.toInt.toNat = b at eln b1 b2
        subst eto eln
        refine v_aload_n C dX2_refusalOf_27 rfl ?_
        refine v_iload_n C dX2_refusalOf_28 rfl ?_
        refine v_iload_n C dX2_refusalOf_29 rfl ?_
        refine v_iload_n C dX2_refusalOf_30 rfl ?_
        first | refine v_iaddN C dX2_refusalOf_31 ?_ | refine v_iadd C dX2_refusalOf_31 ?_
        refine v_iconst (v := nI 1) C dX2_refusalOf_32 (by decide) ?_
        first | refine v_isubN C dX2_refusalOf_33 (by omega) ?_ | refine v_isub C dX2_refusalOf_33 ?_
        refine v_callVi C (c_X2_hasLockIn hl (b := a + b - 1) (n := n) ?_ ?_ ?_ ?_) ym_X2_hasLockIn ml_X2_75 emb_id_mS rfl rfl rfl rfl rfl dX2_refusalOf_34 (Nat.le_of_ble_eq_true rfl) (Nat.le_of_ble_eq_true rfl) (Nat.le_of_ble_eq_true rfl) (Nat.le_of_ble_eq_true rfl) (fun _ _ hu => hu.elim) (fun r u hu => ?_)
        · first | assumption | omega
        · first | assumption | omega
        · first | assumption | omega
        · first | assumption | omega
        obtain ⟨rfl, hu⟩ := hu
        subst u
        refine v_if_eqB C 44 dX2_refusalOf_37 (by decide) (fun c37 => ?_) (fun c37 => ?_)
        · refine v_iconst (v := nI 0) C dX2_refusalOf_44 (by decide) ?_
          refine v_iret C F (by first | rfl | exact bI_nar _) dX2_refusalOf_45 (Nat.le_of_ble_eq_true rfl) (Nat.le_of_ble_eq_true rfl) ?_
          refine ⟨?_, rfl⟩
          unfold refM
          rw [if_neg (by omega), c13, c22, Bool.and_self, if_pos rfl, ht, hle]
          rw [show a + b - 1 + 1 - a = b by omega] at c37
          rw [c37]
          rfl
        · refine v_iconst (v := nI 3) C dX2_refusalOf_40 (by decide) ?_
          refine v_goto C 45 dX2_refusalOf_41 (by decide) ?_
          refine v_iret C F (by first | rfl | exact bI_nar _) dX2_refusalOf_45 (Nat.le_of_ble_eq_true rfl) (Nat.le_of_ble_eq_true rfl) ?_
          refine ⟨?_, rfl⟩
          unfold refM
          rw [if_neg (by omega), c13, c22, Bool.and_self, if_pos rfl, ht, hle]
          rw [show a + b - 1 + 1 - a = b by omega] at c37
          rw [c37]
          rfl
      · refine v_iconst (v := nI 2) C dX2_refusalOf_25 (by decide) ?_
        refine v_iret C F (by first | rfl | exact bI_nar _) dX2_refusalOf_26 (Nat.le_of_ble_eq_true rfl) (Nat.le_of_ble_eq_true rfl) ?_
        refine ⟨?_, rfl⟩
        unfold refM
        rw [if_neg (by omega), c13]
        first
        | rfl
        | (rw [c22]; rfl)
  · rw [e1] at c2
    refine v_iconst (v := nI 1) C dX2_refusalOf_5 (by decide) ?_
    refine v_iret C F (by first | rfl | exact bI_nar _) dX2_refusalOf_6 (Nat.le_of_ble_eq_true rfl) (Nat.le_of_ble_eq_true rfl) ?_
    exact ⟨by unfold refM; rw [if_pos (by omega)], rfl⟩
set_option maxHeartbeats 16000000 in
theorem c_X2_continuesDebt {l : Launch} (hl : l.stackTraces = false) {κ : Kp} {h : Nat → Nat} {g : Mg} {j n : Nat} (hn : g 0 7 = nI n) (h96 : n ≤ 96) (hj : j < 2 ^ 31) : Ct SS MM l κ yX2_continuesDebt cX2_continuesDebt 2 (some FieldType.boolean) 1 0 0 [.ref (h 0), .int (nI j)] (mS κ h) g ri (fun r u => r = bI (decide (j < n) && contM g j) ∧ u = g) (fun _ _ => False) := by
  refine Ct.of (own := RX2) (by decide) rfl hl (by intro v hv; simp only [List.mem_cons, List.not_mem_nil, or_false] at hv; first | (rcases hv with rfl | rfl | rfl | rfl | rfl | rfl <;> rfl) | (rcases hv with rfl | rfl | rfl | rfl | rfl <;> rfl) | (rcases hv with rfl | rfl | rfl | rfl <;> rfl) | (rcases hv with rfl | rfl | rfl <;> rfl) | (rcases hv with rfl | rfl <;> rfl) | (subst hv; rfl) | exact hv.elim) (Nat.le_of_ble_eq_true rfl) (fun X hxl hxk C F N => ?_)
  subst hxl hxk
  show V X (mS (xK X) h) 0 [some (.ref (h 0)), some (.int (nI j))] [] g 0 0
  refine v_aload_n C dX2_continuesDebt_0 rfl ?_
  refine v_iload_n C dX2_continuesDebt_1 rfl ?_
  refine v_callVi C (c_X2_owesW hl hn h96 hj) ym_X2_owes ml_X2_65 emb_id_mS rfl rfl rfl rfl rfl dX2_continuesDebt_2 (Nat.le_of_ble_eq_true rfl) (Nat.le_of_ble_eq_true rfl) (Nat.le_of_ble_eq_true rfl) (Nat.le_of_ble_eq_true rfl) (fun _ _ hu => hu.elim) (fun r u hu => ?_)
  obtain ⟨rfl, hu⟩ := hu
  subst u
  refine v_if_eqB C 58 dX2_continuesDebt_5 (by decide) (fun c5 => ?_) (fun c5 => ?_)
  · have hz : (decide (j < n) && contM g j) = false := by
      unfold contM
      rw [← Bool.and_assoc, c5, Bool.false_and]
    refine v_iconst (v := nI 0) C dX2_continuesDebt_58 (by decide) ?_
    refine v_iret C F (by first | rfl | exact bI_nar _) dX2_continuesDebt_59 (Nat.le_of_ble_eq_true rfl) (Nat.le_of_ble_eq_true rfl) ?_
    first | exact ⟨bI_f hz, rfl⟩ | exact ⟨bI_t hz, rfl⟩
  · have q5 := c5
    simp only [Bool.and_eq_true, decide_eq_true_eq] at q5
    refine v_aload_n C dX2_continuesDebt_8 rfl ?_
    refine v_iload_n C dX2_continuesDebt_9 rfl ?_
    refine v_iconst (v := nI 1) C dX2_continuesDebt_10 (by decide) ?_
    first | refine v_isubN C dX2_continuesDebt_11 (by omega) ?_ | refine v_isub C dX2_continuesDebt_11 ?_
    refine v_callVi C (c_X2_owes hl hn h96) ym_X2_owes ml_X2_65 emb_id_mS rfl rfl rfl rfl rfl dX2_continuesDebt_12 (Nat.le_of_ble_eq_true rfl) (Nat.le_of_ble_eq_true rfl) (Nat.le_of_ble_eq_true rfl) (Nat.le_of_ble_eq_true rfl) (fun _ _ hu => hu.elim) (fun r u hu => ?_)
    obtain ⟨rfl, hu⟩ := hu
    subst u
    refine v_if_eqB C 58 dX2_continuesDebt_15 (by decide) (fun c15 => ?_) (fun c15 => ?_)
    · have hz : (decide (j < n) && contM g j) = false := by
        rcases Nat.eq_zero_or_pos j with e | e
        · subst e
          simp [contM]
        · rw [nI_sub (a := j) (b := 1) (by omega), owP_n hn h96 (by omega), decide_eq_true (show j - 1 < n by omega), Bool.true_and] at c15
          simp [contM, c15]
      refine v_iconst (v := nI 0) C dX2_continuesDebt_58 (by decide) ?_
      refine v_iret C F (by first | rfl | exact bI_nar _) dX2_continuesDebt_59 (Nat.le_of_ble_eq_true rfl) (Nat.le_of_ble_eq_true rfl) ?_
      first | exact ⟨bI_f hz, rfl⟩ | exact ⟨bI_t hz, rfl⟩
    · have hj0 : 0 < j := by
        rcases Nat.eq_zero_or_pos j with e | e
        · subst e
          rw [show nI 0 - nI 1 = -1 by decide] at c15
          exact absurd c15 (by unfold owP isP; rw [show ((-1 : Int32)).toInt = -1 by decide]; simp)
        · exact e
      have ej := nI_sub (a := j) (b := 1) (by omega)
      have q15 := c15
      rw [ej, owP_n hn h96 (by omega), Bool.and_eq_true] at q15
      refine v_aload_n C dX2_continuesDebt_18 rfl ?_
      refine v_getr C fl_X2_18 or_mS_0_2 dX2_continuesDebt_19 ?_
      refine v_iload_n C dX2_continuesDebt_22 rfl ?_
      refine v_iald C ar_mS_3 (by decide) _ ?_ rfl dX2_continuesDebt_23 ?_
      · omega
      refine v_aload_n C dX2_continuesDebt_24 rfl ?_
      refine v_getr C fl_X2_18 or_mS_0_2 dX2_continuesDebt_25 ?_
      refine v_iload_n C dX2_continuesDebt_28 rfl ?_
      refine v_iconst (v := nI 1) C dX2_continuesDebt_29 (by decide) ?_
      first | refine v_isubN C dX2_continuesDebt_30 (by omega) ?_ | refine v_isub C dX2_continuesDebt_30 ?_
      refine v_iald C ar_mS_3 (by decide) _ ?_ rfl dX2_continuesDebt_31 ?_
      · omega
      refine v_icmp_ne C 58 dX2_continuesDebt_32 (by decide) (fun c32 => ?_) (fun c32 => ?_)
      · have hz : (decide (j < n) && contM g j) = false := by
          unfold contM
          rw [show (g 3 j == g 3 (j - 1)) = false from beq_eq_false_iff_ne.mpr c32]
          simp
        refine v_iconst (v := nI 0) C dX2_continuesDebt_58 (by decide) ?_
        refine v_iret C F (by first | rfl | exact bI_nar _) dX2_continuesDebt_59 (Nat.le_of_ble_eq_true rfl) (Nat.le_of_ble_eq_true rfl) ?_
        first | exact ⟨bI_f hz, rfl⟩ | exact ⟨bI_t hz, rfl⟩
      · refine v_aload_n C dX2_continuesDebt_35 rfl ?_
        refine v_getr C fl_X2_15 or_mS_0_1 dX2_continuesDebt_36 ?_
        refine v_iload_n C dX2_continuesDebt_39 rfl ?_
        refine v_iald C ar_mS_2 (by decide) _ ?_ rfl dX2_continuesDebt_40 ?_
        · omega
        refine v_aload_n C dX2_continuesDebt_41 rfl ?_
        refine v_getr C fl_X2_15 or_mS_0_1 dX2_continuesDebt_42 ?_
        refine v_iload_n C dX2_continuesDebt_45 rfl ?_
        refine v_iconst (v := nI 1) C dX2_continuesDebt_46 (by decide) ?_
        first | refine v_isubN C dX2_continuesDebt_47 (by omega) ?_ | refine v_isub C dX2_continuesDebt_47 ?_
        refine v_iald C ar_mS_2 (by decide) _ ?_ rfl dX2_continuesDebt_48 ?_
        · omega
        refine v_iconst (v := nI 1) C dX2_continuesDebt_49 (by decide) ?_
        first | refine v_iaddN C dX2_continuesDebt_50 ?_ | refine v_iadd C dX2_continuesDebt_50 ?_
        refine v_icmp_ne C 58 dX2_continuesDebt_51 (by decide) (fun c51 => ?_) (fun c51 => ?_)
        · have hz : (decide (j < n) && contM g j) = false := by
            unfold contM
            rw [show (g 2 j == g 2 (j - 1) + nI 1) = false from beq_eq_false_iff_ne.mpr c51]
            simp
          refine v_iconst (v := nI 0) C dX2_continuesDebt_58 (by decide) ?_
          refine v_iret C F (by first | rfl | exact bI_nar _) dX2_continuesDebt_59 (Nat.le_of_ble_eq_true rfl) (Nat.le_of_ble_eq_true rfl) ?_
          first | exact ⟨bI_f hz, rfl⟩ | exact ⟨bI_t hz, rfl⟩
        · have hz : (decide (j < n) && contM g j) = true := by
            unfold contM
            rw [decide_eq_true q5.1, q5.2, decide_eq_true hj0, q15.2, beq_iff_eq.mpr c32, beq_iff_eq.mpr c51]
            rfl
          refine v_iconst (v := nI 1) C dX2_continuesDebt_54 (by decide) ?_
          refine v_goto C 59 dX2_continuesDebt_55 (by decide) ?_
          refine v_iret C F (by first | rfl | exact bI_nar _) dX2_continuesDebt_59 (Nat.le_of_ble_eq_true rfl) (Nat.le_of_ble_eq_true rfl) ?_
          first | exact ⟨bI_f hz, rfl⟩ | exact ⟨bI_t hz, rfl⟩
set_option maxHeartbeats 16000000 in
theorem c_X2_startsDebt {l : Launch} (hl : l.stackTraces = false) {κ : Kp} {h : Nat → Nat} {g : Mg} {j n : Nat} (hn : g 0 7 = nI n) (h96 : n ≤ 96) (hj : j < n) : Ct SS MM l κ yX2_startsDebt cX2_startsDebt 2 (some FieldType.boolean) 2 0 0 [.ref (h 0), .int (nI j)] (mS κ h) g ri (fun r u => r = bI (startM g j) ∧ u = g) (fun _ _ => False) := by
  refine Ct.of (own := RX2) (by decide) rfl hl (by intro v hv; simp only [List.mem_cons, List.not_mem_nil, or_false] at hv; first | (rcases hv with rfl | rfl | rfl | rfl | rfl | rfl <;> rfl) | (rcases hv with rfl | rfl | rfl | rfl | rfl <;> rfl) | (rcases hv with rfl | rfl | rfl | rfl <;> rfl) | (rcases hv with rfl | rfl | rfl <;> rfl) | (rcases hv with rfl | rfl <;> rfl) | (subst hv; rfl) | exact hv.elim) (Nat.le_of_ble_eq_true rfl) (fun X hxl hxk C F N => ?_)
  subst hxl hxk
  show V X (mS (xK X) h) 0 [some (.ref (h 0)), some (.int (nI j))] [] g 0 0
  refine v_aload_n C dX2_startsDebt_0 rfl ?_
  refine v_iload_n C dX2_startsDebt_1 rfl ?_
  refine v_callVi C (c_X2_owesN hl hn h96 hj) ym_X2_owes ml_X2_65 emb_id_mS rfl rfl rfl rfl rfl dX2_startsDebt_2 (Nat.le_of_ble_eq_true rfl) (Nat.le_of_ble_eq_true rfl) (Nat.le_of_ble_eq_true rfl) (Nat.le_of_ble_eq_true rfl) (fun _ _ hu => hu.elim) (fun r u hu => ?_)
  obtain ⟨rfl, hu⟩ := hu
  subst u
  refine v_if_eqB C 20 dX2_startsDebt_5 (by decide) (fun c5 => ?_) (fun c5 => ?_)
  · have hz : startM g j = false := by
      unfold startM
      rw [c5]
      rfl
    refine v_iconst (v := nI 0) C dX2_startsDebt_20 (by decide) ?_
    refine v_iret C F (by first | rfl | exact bI_nar _) dX2_startsDebt_21 (Nat.le_of_ble_eq_true rfl) (Nat.le_of_ble_eq_true rfl) ?_
    first | exact ⟨bI_f hz, rfl⟩ | exact ⟨bI_t hz, rfl⟩
  · refine v_aload_n C dX2_startsDebt_8 rfl ?_
    refine v_iload_n C dX2_startsDebt_9 rfl ?_
    refine v_callVi C (c_X2_continuesDebt hl hn h96 (by omega)) ym_X2_continuesDebt ml_X2_78 emb_id_mS rfl rfl rfl rfl rfl dX2_startsDebt_10 (Nat.le_of_ble_eq_true rfl) (Nat.le_of_ble_eq_true rfl) (Nat.le_of_ble_eq_true rfl) (Nat.le_of_ble_eq_true rfl) (fun _ _ hu => hu.elim) (fun r u hu => ?_)
    obtain ⟨rfl, hu⟩ := hu
    subst u
    refine v_if_neB C 20 dX2_startsDebt_13 (by decide) (fun c13 => ?_) (fun c13 => ?_)
    · have hz : startM g j = false := by
        rw [decide_eq_true hj, Bool.true_and] at c13
        unfold startM
        rw [c13]
        simp
      refine v_iconst (v := nI 0) C dX2_startsDebt_20 (by decide) ?_
      refine v_iret C F (by first | rfl | exact bI_nar _) dX2_startsDebt_21 (Nat.le_of_ble_eq_true rfl) (Nat.le_of_ble_eq_true rfl) ?_
      first | exact ⟨bI_f hz, rfl⟩ | exact ⟨bI_t hz, rfl⟩
    · have hz : startM g j = true := by
        rw [decide_eq_true hj, Bool.true_and] at c13
        unfold startM
        rw [c5, c13]
        rfl
      refine v_iconst (v := nI 1) C dX2_startsDebt_16 (by decide) ?_
      refine v_goto C 21 dX2_startsDebt_17 (by decide) ?_
      refine v_iret C F (by first | rfl | exact bI_nar _) dX2_startsDebt_21 (Nat.le_of_ble_eq_true rfl) (Nat.le_of_ble_eq_true rfl) ?_
      first | exact ⟨bI_f hz, rfl⟩ | exact ⟨bI_t hz, rfl⟩
set_option maxHeartbeats 16000000 in
theorem c_X2_firstOfDebt {l : Launch} (hl : l.stackTraces = false) {κ : Kp} {h : Nat → Nat} {g : Mg} {num : Int32} {n : Nat} (hn : g 0 7 = nI n) (h96 : n ≤ 96) : Ct SS MM l κ yX2_firstOfDebt cX2_firstOfDebt 4 (some FieldType.int) 3 0 0 [.ref (h 0), .int num] (mS κ h) g ri (fun r u => r = oN (kthG (startM g) 0 n num.toInt) ∧ u = g) (fun _ _ => False) := by
  refine Ct.of (own := RX2) (by decide) rfl hl (by intro v hv; simp only [List.mem_cons, List.not_mem_nil, or_false] at hv; first | (rcases hv with rfl | rfl | rfl | rfl | rfl | rfl <;> rfl) | (rcases hv with rfl | rfl | rfl | rfl | rfl <;> rfl) | (rcases hv with rfl | rfl | rfl | rfl <;> rfl) | (rcases hv with rfl | rfl | rfl <;> rfl) | (rcases hv with rfl | rfl <;> rfl) | (subst hv; rfl) | exact hv.elim) (Nat.le_of_ble_eq_true rfl) (fun X hxl hxk C F N => ?_)
  subst hxl hxk
  show V X (mS (xK X) h) 0 [some (.ref (h 0)), some (.int num), none, none] [] g 0 0
  refine v_iconst (v := nI 0) C dX2_firstOfDebt_0 (by decide) ?_
  refine v_istore_n C (lo2 := [some _, some _, some _, none]) dX2_firstOfDebt_1 rfl (Nat.le_of_ble_eq_true rfl) rfl ?_
  refine v_iconst (v := nI 0) C dX2_firstOfDebt_2 (by decide) ?_
  refine v_istore_n C (lo2 := [some _, some _, some _, some _]) dX2_firstOfDebt_3 rfl (Nat.le_of_ble_eq_true rfl) rfl ?_
  have L4 : ∀ (t : Nat × Nat), (fun t => t.2 ≤ t.1 ∧ t.1 ≤ 200 ∧ kthG (startM g) t.1 (n - t.1) (num.toInt - t.2) = kthG (startM g) 0 n num.toInt) t → (fun t : Nat × Nat => V X (mS (xK X) h) 4 [some (.ref (h 0)), some (.int num), some (.int (nI t.2)), some (.int (nI t.1))] [] g 0 0) t := by
    refine v_ind (fun t : Nat × Nat => n - t.1) ?_
    rintro ⟨i, f⟩ ih4 hI4
    try dsimp only at hI4 ⊢
    obtain ⟨i1, i2, i3⟩ := hI4
    refine v_iload_n C dX2_firstOfDebt_4 rfl ?_
    refine v_aload_n C dX2_firstOfDebt_5 rfl ?_
    refine v_geti C fl_X2_40 oi_mS_0_7 dX2_firstOfDebt_6 ?_
    rw [hn]
    first | refine v_icmp_geN C 36 dX2_firstOfDebt_9 (by decide) (by omega) (by omega) (fun c9 => ?_) (fun c9 => ?_) | refine v_icmp_ge C 36 dX2_firstOfDebt_9 (by decide) (fun c9 => ?_) (fun c9 => ?_)
    · refine v_iconst (v := (-1)) C dX2_firstOfDebt_36 (by decide) ?_
      refine v_iret C F (by first | rfl | exact bI_nar _) dX2_firstOfDebt_37 (Nat.le_of_ble_eq_true rfl) (Nat.le_of_ble_eq_true rfl) ?_
      rw [kthG_0 (by omega)] at i3
      exact ⟨by rw [← i3]; rfl, rfl⟩
    · refine v_aload_n C dX2_firstOfDebt_12 rfl ?_
      refine v_iload_n C dX2_firstOfDebt_13 rfl ?_
      refine v_callVi C (c_X2_startsDebt hl (n := n) hn h96 (by omega)) ym_X2_startsDebt ml_X2_81 emb_id_mS rfl rfl rfl rfl rfl dX2_firstOfDebt_14 (Nat.le_of_ble_eq_true rfl) (Nat.le_of_ble_eq_true rfl) (Nat.le_of_ble_eq_true rfl) (Nat.le_of_ble_eq_true rfl) (fun _ _ hu => hu.elim) (fun r u hu => ?_)
      obtain ⟨rfl, hu⟩ := hu
      subst u
      refine v_if_eqB C 30 dX2_firstOfDebt_17 (by decide) (fun c17 => ?_) (fun c17 => ?_)
      · first | refine v_iinc1 C (lo2 := [some _, some _, some _, some _]) dX2_firstOfDebt_30 rfl rfl rfl ?_ | refine v_iinc C (lo2 := [some _, some _, some _, some _]) dX2_firstOfDebt_30 rfl rfl rfl rfl ?_
        refine v_goto C 4 dX2_firstOfDebt_33 (by decide) ?_
        have hib : i < n := by omega
        rw [kthG_s hib] at i3
        first
        | (rw [c17, if_pos rfl, if_neg (fun e => c22 (by rw [← nI_of_toInt (x := num) (a := f) (by omega) (by omega)]))] at i3
           exact ih4 (i + 1, f + 1) (by show n - (i + 1) < n - i; omega) ⟨by show f + 1 ≤ i + 1; omega, by show i + 1 ≤ 200; omega, by rw [← i3]; show kthG _ _ _ (num.toInt - ((f + 1 : Nat) : Int)) = kthG _ _ _ (num.toInt - (f : Int) - 1); rw [show num.toInt - ((f + 1 : Nat) : Int) = num.toInt - (f : Int) - 1 by omega]⟩)
        | (rw [c17, if_neg Bool.false_ne_true] at i3
           exact ih4 (i + 1, f) (by show n - (i + 1) < n - i; omega) ⟨by show f ≤ i + 1; omega, by show i + 1 ≤ 200; omega, i3⟩)
      · refine v_iload_n C dX2_firstOfDebt_20 rfl ?_
        refine v_iload_n C dX2_firstOfDebt_21 rfl ?_
        refine v_icmp_ne C 27 dX2_firstOfDebt_22 (by decide) (fun c22 => ?_) (fun c22 => ?_)
        · first | refine v_iinc1 C (lo2 := [some _, some _, some _, some _]) dX2_firstOfDebt_27 rfl rfl rfl ?_ | refine v_iinc C (lo2 := [some _, some _, some _, some _]) dX2_firstOfDebt_27 rfl rfl rfl rfl ?_
          first | refine v_iinc1 C (lo2 := [some _, some _, some _, some _]) dX2_firstOfDebt_30 rfl rfl rfl ?_ | refine v_iinc C (lo2 := [some _, some _, some _, some _]) dX2_firstOfDebt_30 rfl rfl rfl rfl ?_
          refine v_goto C 4 dX2_firstOfDebt_33 (by decide) ?_
          have hib : i < n := by omega
          rw [kthG_s hib] at i3
          first
          | (rw [c17, if_pos rfl, if_neg (fun e => c22 (by rw [← nI_of_toInt (x := num) (a := f) (by omega) (by omega)]))] at i3
             exact ih4 (i + 1, f + 1) (by show n - (i + 1) < n - i; omega) ⟨by show f + 1 ≤ i + 1; omega, by show i + 1 ≤ 200; omega, by rw [← i3]; show kthG _ _ _ (num.toInt - ((f + 1 : Nat) : Int)) = kthG _ _ _ (num.toInt - (f : Int) - 1); rw [show num.toInt - ((f + 1 : Nat) : Int) = num.toInt - (f : Int) - 1 by omega]⟩)
          | (rw [c17, if_neg Bool.false_ne_true] at i3
             exact ih4 (i + 1, f) (by show n - (i + 1) < n - i; omega) ⟨by show f ≤ i + 1; omega, by show i + 1 ≤ 200; omega, i3⟩)
        · refine v_iload_n C dX2_firstOfDebt_25 rfl ?_
          refine v_iret C F (by first | rfl | exact bI_nar _) dX2_firstOfDebt_26 (Nat.le_of_ble_eq_true rfl) (Nat.le_of_ble_eq_true rfl) ?_
          have hib : i < n := by omega
          rw [kthG_s hib, c17, if_pos rfl, if_pos (by rw [← c22, nI_toInt (by omega)]; omega)] at i3
          exact ⟨by rw [← i3]; rfl, rfl⟩
  exact L4 (0, 0) ⟨Nat.le_refl _, by omega, by show kthG _ _ _ (num.toInt - 0) = _; rw [Int.sub_zero]; rfl⟩
set_option maxHeartbeats 16000000 in
theorem c_X2_lengthOfDebt {l : Launch} (hl : l.stackTraces = false) {κ : Kp} {h : Nat → Nat} {g : Mg} {j n : Nat} (hn : g 0 7 = nI n) (h96 : n ≤ 96) (hj : j < n) : Ct SS MM l κ yX2_lengthOfDebt cX2_lengthOfDebt 3 (some FieldType.int) 2 0 0 [.ref (h 0), .int (nI j)] (mS κ h) g ri (fun r u => r = nI (lenM g n j) ∧ u = g) (fun _ _ => False) := by
  refine Ct.of (own := RX2) (by decide) rfl hl (by intro v hv; simp only [List.mem_cons, List.not_mem_nil, or_false] at hv; first | (rcases hv with rfl | rfl | rfl | rfl | rfl | rfl <;> rfl) | (rcases hv with rfl | rfl | rfl | rfl | rfl <;> rfl) | (rcases hv with rfl | rfl | rfl | rfl <;> rfl) | (rcases hv with rfl | rfl | rfl <;> rfl) | (rcases hv with rfl | rfl <;> rfl) | (subst hv; rfl) | exact hv.elim) (Nat.le_of_ble_eq_true rfl) (fun X hxl hxk C F N => ?_)
  subst hxl hxk
  show V X (mS (xK X) h) 0 [some (.ref (h 0)), some (.int (nI j)), none] [] g 0 0
  refine v_iconst (v := nI 1) C dX2_lengthOfDebt_0 (by decide) ?_
  refine v_istore_n C (lo2 := [some _, some _, some _]) dX2_lengthOfDebt_1 rfl (Nat.le_of_ble_eq_true rfl) rfl ?_
  have L2 : ∀ (t : Nat), (fun t => 1 ≤ t ∧ t ≤ 96 ∧ t + runM g n (96 - t) (j + t) = lenM g n j) t → (fun t : Nat => V X (mS (xK X) h) 2 [some (.ref (h 0)), some (.int (nI j)), some (.int (nI t))] [] g 0 0) t := by
    refine v_ind (fun t : Nat => 96 - t) ?_
    rintro t ih2 hI2
    try dsimp only at hI2 ⊢
    obtain ⟨i1, i2, i3⟩ := hI2
    refine v_iload_n C dX2_lengthOfDebt_2 rfl ?_
    refine v_bipush (v := nI 96) C dX2_lengthOfDebt_3 (by decide) ?_
    first | refine v_icmp_geN C 24 dX2_lengthOfDebt_5 (by decide) (by omega) (by omega) (fun c5 => ?_) (fun c5 => ?_) | refine v_icmp_ge C 24 dX2_lengthOfDebt_5 (by decide) (fun c5 => ?_) (fun c5 => ?_)
    · refine v_iload_n C dX2_lengthOfDebt_24 rfl ?_
      refine v_iret C F (by first | rfl | exact bI_nar _) dX2_lengthOfDebt_25 (Nat.le_of_ble_eq_true rfl) (Nat.le_of_ble_eq_true rfl) ?_
      refine ⟨?_, rfl⟩
      rw [← i3]
      first
      | (rw [show 96 - t = (96 - (t + 1)) + 1 by omega]; show nI t = nI (t + (if decide (j + t < n) && contM g (j + t) then 1 + runM g n (96 - (t + 1)) (j + t + 1) else 0)); rw [c15]; rfl)
      | (rw [show 96 - t = 0 by omega]; rfl)
    · refine v_aload_n C dX2_lengthOfDebt_8 rfl ?_
      refine v_iload_n C dX2_lengthOfDebt_9 rfl ?_
      refine v_iload_n C dX2_lengthOfDebt_10 rfl ?_
      first | refine v_iaddN C dX2_lengthOfDebt_11 ?_ | refine v_iadd C dX2_lengthOfDebt_11 ?_
      refine v_callVi C (c_X2_continuesDebt hl (n := n) hn h96 (by omega)) ym_X2_continuesDebt ml_X2_78 emb_id_mS rfl rfl rfl rfl rfl dX2_lengthOfDebt_12 (Nat.le_of_ble_eq_true rfl) (Nat.le_of_ble_eq_true rfl) (Nat.le_of_ble_eq_true rfl) (Nat.le_of_ble_eq_true rfl) (fun _ _ hu => hu.elim) (fun r u hu => ?_)
      obtain ⟨rfl, hu⟩ := hu
      subst u
      refine v_if_eqB C 24 dX2_lengthOfDebt_15 (by decide) (fun c15 => ?_) (fun c15 => ?_)
      · refine v_iload_n C dX2_lengthOfDebt_24 rfl ?_
        refine v_iret C F (by first | rfl | exact bI_nar _) dX2_lengthOfDebt_25 (Nat.le_of_ble_eq_true rfl) (Nat.le_of_ble_eq_true rfl) ?_
        refine ⟨?_, rfl⟩
        rw [← i3]
        first
        | (rw [show 96 - t = (96 - (t + 1)) + 1 by omega]; show nI t = nI (t + (if decide (j + t < n) && contM g (j + t) then 1 + runM g n (96 - (t + 1)) (j + t + 1) else 0)); rw [c15]; rfl)
        | (rw [show 96 - t = 0 by omega]; rfl)
      · first | refine v_iinc1 C (lo2 := [some _, some _, some _]) dX2_lengthOfDebt_18 rfl rfl rfl ?_ | refine v_iinc C (lo2 := [some _, some _, some _]) dX2_lengthOfDebt_18 rfl rfl rfl rfl ?_
        refine v_goto C 2 dX2_lengthOfDebt_21 (by decide) ?_
        refine ih2 (t + 1) (by show 96 - (t + 1) < 96 - t; omega) ⟨by omega, by omega, ?_⟩
        rw [← i3, show 96 - t = (96 - (t + 1)) + 1 by omega]
        show t + 1 + _ = t + (if decide (j + t < n) && contM g (j + t) then 1 + runM g n (96 - (t + 1)) (j + t + 1) else 0)
        rw [c15, if_pos rfl, show j + (t + 1) = j + t + 1 by omega]
        omega
  exact L2 1 ⟨Nat.le_refl _, by omega, rfl⟩
set_option maxHeartbeats 16000000 in
theorem c_X2_endDebt {l : Launch} (hl : l.stackTraces = false) {κ : Kp} {h : Nat → Nat} {g : Mg} {j : Nat} (hj : j < 96) : Ct SS MM l κ yX2_endDebt cX2_endDebt 2 none 0 0 0 [.ref (h 0), .int (nI j)] (mS κ h) g rv (fun _ u => u = endM g j) (fun _ _ => False) := by
  refine Ct.of (own := RX2) (by decide) rfl hl (by intro v hv; simp only [List.mem_cons, List.not_mem_nil, or_false] at hv; first | (rcases hv with rfl | rfl | rfl | rfl | rfl | rfl <;> rfl) | (rcases hv with rfl | rfl | rfl | rfl | rfl <;> rfl) | (rcases hv with rfl | rfl | rfl | rfl <;> rfl) | (rcases hv with rfl | rfl | rfl <;> rfl) | (rcases hv with rfl | rfl <;> rfl) | (subst hv; rfl) | exact hv.elim) (Nat.le_of_ble_eq_true rfl) (fun X hxl hxk C F N => ?_)
  subst hxl hxk
  show V X (mS (xK X) h) 0 [some (.ref (h 0)), some (.int (nI j))] [] g 0 0
  refine v_aload_n C dX2_endDebt_0 rfl ?_
  refine v_getr C fl_X2_15 or_mS_0_1 dX2_endDebt_1 ?_
  refine v_iload_n C dX2_endDebt_4 rfl ?_
  refine v_iconst (v := (-1)) C dX2_endDebt_5 (by decide) ?_
  refine v_iast C ar_mS_2 (by decide) _ ?_ rfl dX2_endDebt_6 ?_
  · omega
  refine v_aload_n C dX2_endDebt_7 rfl ?_
  refine v_getr C fl_X2_18 or_mS_0_2 dX2_endDebt_8 ?_
  refine v_iload_n C dX2_endDebt_11 rfl ?_
  refine v_iconst (v := (-1)) C dX2_endDebt_12 (by decide) ?_
  refine v_iast C ar_mS_3 (by decide) _ ?_ rfl dX2_endDebt_13 ?_
  · omega
  refine v_vret C F dX2_endDebt_14 (Nat.le_of_ble_eq_true rfl) (Nat.le_of_ble_eq_true rfl) ?_
  first | exact rfl | exact ⟨rfl, rfl⟩
set_option maxHeartbeats 16000000 in
theorem c_X2_note {l : Launch} (hl : l.stackTraces = false) {κ : Kp} {h : Nat → Nat} {g : Mg} {kd p v : Int32} (hE : EvOK g) : Ct SS MM l κ yX2_note cX2_note 5 none 0 0 0 [.ref (h 0), .int kd, .int p, .int v] (mS κ h) g rv (fun _ u => u = noteM g kd p v) (fun _ _ => False) := by
  refine Ct.of (own := RX2) (by decide) rfl hl (by intro v hv; simp only [List.mem_cons, List.not_mem_nil, or_false] at hv; first | (rcases hv with rfl | rfl | rfl | rfl | rfl | rfl <;> rfl) | (rcases hv with rfl | rfl | rfl | rfl | rfl <;> rfl) | (rcases hv with rfl | rfl | rfl | rfl <;> rfl) | (rcases hv with rfl | rfl | rfl <;> rfl) | (rcases hv with rfl | rfl <;> rfl) | (subst hv; rfl) | exact hv.elim) (Nat.le_of_ble_eq_true rfl) (fun X hxl hxk C F N => ?_)
  subst hxl hxk
  show V X (mS (xK X) h) 0 [some (.ref (h 0)), some (.int kd), some (.int p), some (.int v), none] [] g 0 0
  obtain ⟨e, he, h8⟩ := hE
  have hev := evN_eq h8 he
  refine v_aload_n C dX2_note_0 rfl ?_
  refine v_getiQ (x := nI e) C fl_X2_44 oi_mS_0_8 (h8) dX2_note_1 ?_
  refine v_bipush (v := nI 80) C dX2_note_4 (by decide) ?_
  first | refine v_icmp_ltN C 10 dX2_note_6 (by decide) (by omega) (by omega) (fun c6 => ?_) (fun c6 => ?_) | refine v_icmp_lt C 10 dX2_note_6 (by decide) (fun c6 => ?_) (fun c6 => ?_)
  · refine v_aload_n C dX2_note_10 rfl ?_
    refine v_getiQ (x := nI e) C fl_X2_44 oi_mS_0_8 (h8) dX2_note_11 ?_
    refine v_iconst (v := nI 3) C dX2_note_14 (by decide) ?_
    first | refine v_imulN C dX2_note_15 ?_ | refine v_imul C dX2_note_15 ?_
    refine v_istore C (lo2 := [some _, some _, some _, some _, some _]) dX2_note_16 rfl (Nat.le_of_ble_eq_true rfl) rfl ?_
    refine v_aload_n C dX2_note_18 rfl ?_
    refine v_getr C fl_X2_31 or_mS_0_6 dX2_note_19 ?_
    refine v_iload C dX2_note_22 rfl ?_
    refine v_iload_n C dX2_note_24 rfl ?_
    refine v_iast C ar_mS_7 (by decide) _ ?_ rfl dX2_note_25 ?_
    · omega
    refine V.stt (g2 := sG g 7 (upd (g 7) (e * 3) kd)) (rfl) ?_
    refine v_aload_n C dX2_note_26 rfl ?_
    refine v_getr C fl_X2_31 or_mS_0_6 dX2_note_27 ?_
    refine v_iload C dX2_note_30 rfl ?_
    refine v_iconst (v := nI 1) C dX2_note_32 (by decide) ?_
    first | refine v_iaddN C dX2_note_33 ?_ | refine v_iadd C dX2_note_33 ?_
    refine v_iload_n C dX2_note_34 rfl ?_
    refine v_iast C ar_mS_7 (by decide) _ ?_ rfl dX2_note_35 ?_
    · omega
    refine V.stt (g2 := sG g 7 (upd (upd (g 7) (e * 3) kd) (e * 3 + 1) p)) (sG_sG) ?_
    refine v_aload_n C dX2_note_36 rfl ?_
    refine v_getr C fl_X2_31 or_mS_0_6 dX2_note_37 ?_
    refine v_iload C dX2_note_40 rfl ?_
    refine v_iconst (v := nI 2) C dX2_note_42 (by decide) ?_
    first | refine v_iaddN C dX2_note_43 ?_ | refine v_iadd C dX2_note_43 ?_
    refine v_iload_n C dX2_note_44 rfl ?_
    refine v_iast C ar_mS_7 (by decide) _ ?_ rfl dX2_note_45 ?_
    · omega
    refine V.stt (g2 := sG g 7 (upd (upd (upd (g 7) (e * 3) kd) (e * 3 + 1) p) (e * 3 + 2) v)) (sG_sG) ?_
    refine v_aload_n C dX2_note_46 rfl ?_
    refine v_dup C dX2_note_47 rfl ?_
    refine v_getiQ (x := nI e) C fl_X2_44 oi_mS_0_8 (h8) dX2_note_48 ?_
    refine v_iconst (v := nI 1) C dX2_note_51 (by decide) ?_
    first | refine v_iaddN C dX2_note_52 ?_ | refine v_iadd C dX2_note_52 ?_
    refine v_puti C fl_X2_44 fw_X2_8 oi_mS_0_8 ⟨rfl, rfl⟩ dX2_note_53 ?_
    refine v_vret C F dX2_note_56 (Nat.le_of_ble_eq_true rfl) (Nat.le_of_ble_eq_true rfl) ?_
    unfold noteM
    rw [hev, if_pos (by omega)]
    rfl
  · refine v_vret C F dX2_note_9 (Nat.le_of_ble_eq_true rfl) (Nat.le_of_ble_eq_true rfl) ?_
    unfold noteM
    rw [hev, if_neg (by omega)]
set_option maxHeartbeats 16000000 in
theorem c_X2_countPayment {l : Launch} (hl : l.stackTraces = false) {κ : Kp} {h : Nat → Nat} {g : Mg} {k : Nat} (hk : k = 1 ∨ k = 2 ∨ k = 3) : Ct SS MM l κ yX2_countPayment cX2_countPayment 2 none 0 0 0 [.ref (h 0), .int (nI k)] (mS κ h) g rv (fun _ u => u = cpM g k) (fun _ _ => False) := by
  refine Ct.of (own := RX2) (by decide) rfl hl (by intro v hv; simp only [List.mem_cons, List.not_mem_nil, or_false] at hv; first | (rcases hv with rfl | rfl | rfl | rfl | rfl | rfl <;> rfl) | (rcases hv with rfl | rfl | rfl | rfl | rfl <;> rfl) | (rcases hv with rfl | rfl | rfl | rfl <;> rfl) | (rcases hv with rfl | rfl | rfl <;> rfl) | (rcases hv with rfl | rfl <;> rfl) | (subst hv; rfl) | exact hv.elim) (Nat.le_of_ble_eq_true rfl) (fun X hxl hxk C F N => ?_)
  subst hxl hxk
  show V X (mS (xK X) h) 0 [some (.ref (h 0)), some (.int (nI k))] [] g 0 0
  refine v_iload_n C dX2_countPayment_0 rfl ?_
  rcases hk with rfl | rfl | rfl
  · refine v_lookup C 28 (off := 27) dX2_countPayment_1 (by decide) (by decide) (by decide) ?_
    refine v_aload_n C dX2_countPayment_28 rfl ?_
    refine v_getr C fl_X2_28 or_mS_0_5 dX2_countPayment_29 ?_
    refine v_iconst (v := nI 2) C dX2_countPayment_32 (by decide) ?_
    refine v_dup2 C dX2_countPayment_33 rfl rfl ?_
    refine v_iald C ar_mS_6 (by decide) _ ?_ rfl dX2_countPayment_34 ?_
    · omega
    refine v_iconst (v := nI 1) C dX2_countPayment_35 (by decide) ?_
    first | refine v_iaddN C dX2_countPayment_36 ?_ | refine v_iadd C dX2_countPayment_36 ?_
    refine v_iast C ar_mS_6 (by decide) _ ?_ rfl dX2_countPayment_37 ?_
    · omega
    refine v_aload_n C dX2_countPayment_38 rfl ?_
    refine v_getr C fl_X2_28 or_mS_0_5 dX2_countPayment_39 ?_
    refine v_bipush (v := nI 7) C dX2_countPayment_42 (by decide) ?_
    refine v_dup2 C dX2_countPayment_44 rfl rfl ?_
    refine v_iald C ar_mS_6 (by decide) _ ?_ rfl dX2_countPayment_45 ?_
    · omega
    refine v_iconst (v := nI 1) C dX2_countPayment_46 (by decide) ?_
    first | refine v_iaddN C dX2_countPayment_47 ?_ | refine v_iadd C dX2_countPayment_47 ?_
    refine v_iast C ar_mS_6 (by decide) _ ?_ rfl dX2_countPayment_48 ?_
    · omega
    refine v_goto C 97 dX2_countPayment_49 (by decide) ?_
    refine v_vret C F dX2_countPayment_97 (Nat.le_of_ble_eq_true rfl) (Nat.le_of_ble_eq_true rfl) ?_
    rfl
  · refine v_lookup C 52 (off := 51) dX2_countPayment_1 (by decide) (by decide) (by decide) ?_
    refine v_aload_n C dX2_countPayment_52 rfl ?_
    refine v_getr C fl_X2_28 or_mS_0_5 dX2_countPayment_53 ?_
    refine v_iconst (v := nI 3) C dX2_countPayment_56 (by decide) ?_
    refine v_dup2 C dX2_countPayment_57 rfl rfl ?_
    refine v_iald C ar_mS_6 (by decide) _ ?_ rfl dX2_countPayment_58 ?_
    · omega
    refine v_iconst (v := nI 1) C dX2_countPayment_59 (by decide) ?_
    first | refine v_iaddN C dX2_countPayment_60 ?_ | refine v_iadd C dX2_countPayment_60 ?_
    refine v_iast C ar_mS_6 (by decide) _ ?_ rfl dX2_countPayment_61 ?_
    · omega
    refine v_aload_n C dX2_countPayment_62 rfl ?_
    refine v_getr C fl_X2_28 or_mS_0_5 dX2_countPayment_63 ?_
    refine v_bipush (v := nI 7) C dX2_countPayment_66 (by decide) ?_
    refine v_dup2 C dX2_countPayment_68 rfl rfl ?_
    refine v_iald C ar_mS_6 (by decide) _ ?_ rfl dX2_countPayment_69 ?_
    · omega
    refine v_iconst (v := nI 3) C dX2_countPayment_70 (by decide) ?_
    first | refine v_iaddN C dX2_countPayment_71 ?_ | refine v_iadd C dX2_countPayment_71 ?_
    refine v_iast C ar_mS_6 (by decide) _ ?_ rfl dX2_countPayment_72 ?_
    · omega
    refine v_goto C 97 dX2_countPayment_73 (by decide) ?_
    refine v_vret C F dX2_countPayment_97 (Nat.le_of_ble_eq_true rfl) (Nat.le_of_ble_eq_true rfl) ?_
    rfl
  · refine v_lookup C 76 (off := 75) dX2_countPayment_1 (by decide) (by decide) (by decide) ?_
    refine v_aload_n C dX2_countPayment_76 rfl ?_
    refine v_getr C fl_X2_28 or_mS_0_5 dX2_countPayment_77 ?_
    refine v_iconst (v := nI 4) C dX2_countPayment_80 (by decide) ?_
    refine v_dup2 C dX2_countPayment_81 rfl rfl ?_
    refine v_iald C ar_mS_6 (by decide) _ ?_ rfl dX2_countPayment_82 ?_
    · omega
    refine v_iconst (v := nI 1) C dX2_countPayment_83 (by decide) ?_
    first | refine v_iaddN C dX2_countPayment_84 ?_ | refine v_iadd C dX2_countPayment_84 ?_
    refine v_iast C ar_mS_6 (by decide) _ ?_ rfl dX2_countPayment_85 ?_
    · omega
    refine v_aload_n C dX2_countPayment_86 rfl ?_
    refine v_getr C fl_X2_28 or_mS_0_5 dX2_countPayment_87 ?_
    refine v_bipush (v := nI 7) C dX2_countPayment_90 (by decide) ?_
    refine v_dup2 C dX2_countPayment_92 rfl rfl ?_
    refine v_iald C ar_mS_6 (by decide) _ ?_ rfl dX2_countPayment_93 ?_
    · omega
    refine v_iconst (v := nI 2) C dX2_countPayment_94 (by decide) ?_
    first | refine v_iaddN C dX2_countPayment_95 ?_ | refine v_iadd C dX2_countPayment_95 ?_
    refine v_iast C ar_mS_6 (by decide) _ ?_ rfl dX2_countPayment_96 ?_
    · omega
    refine v_vret C F dX2_countPayment_97 (Nat.le_of_ble_eq_true rfl) (Nat.le_of_ble_eq_true rfl) ?_
    rfl
/-- a memory that was cleared: the events stay where they were -/
def clrM (ev : Nat → Int32) : Mg := fun c => match c with
  | 2 => fun p => if p < 96 then -1 else 0
  | 3 => fun p => if p < 96 then -1 else 0
  | 7 => ev
  | _ => fun _ => nI 0
set_option maxHeartbeats 16000000 in
theorem c_X2_clear {l : Launch} (hl : l.stackTraces = false) {κ : Kp} {h : Nat → Nat} {g : Mg}  : Ct SS MM l κ yX2_clear cX2_clear 2 none 1 0 0 [.ref (h 0)] (mS κ h) g rv (fun _ u => u = clrM (g 7)) (fun _ _ => False) := by
  refine Ct.of (own := RX2) (by decide) rfl hl (by intro v hv; simp only [List.mem_cons, List.not_mem_nil, or_false] at hv; first | (rcases hv with rfl | rfl | rfl | rfl | rfl | rfl <;> rfl) | (rcases hv with rfl | rfl | rfl | rfl | rfl <;> rfl) | (rcases hv with rfl | rfl | rfl | rfl <;> rfl) | (rcases hv with rfl | rfl | rfl <;> rfl) | (rcases hv with rfl | rfl <;> rfl) | (subst hv; rfl) | exact hv.elim) (Nat.le_of_ble_eq_true rfl) (fun X hxl hxk C F N => ?_)
  subst hxl hxk
  show V X (mS (xK X) h) 0 [some (.ref (h 0)), none] [] g 0 0
  refine v_aload_n C dX2_clear_0 rfl ?_
  refine v_getr C fl_X2_9 or_mS_0_0 dX2_clear_1 ?_
  refine v_iconst (v := nI 0) C dX2_clear_4 (by decide) ?_
  refine v_callOv C (c_J7_fill hl (by decide)) ys_J7_fill_53178 ml_X2_34 (emb_row fix_mS ar_mS_1) rfl rfl rfl dX2_clear_5 (Nat.le_of_ble_eq_true rfl) (Nat.le_of_ble_eq_true rfl) (Nat.le_of_ble_eq_true rfl) (Nat.le_of_ble_eq_true rfl) (fun _ _ hu => hu.elim) (fun r u hu => ?_)
  obtain rfl := hu
  refine v_aload_n C dX2_clear_8 rfl ?_
  refine v_getr C fl_X2_15 or_mS_0_1 dX2_clear_9 ?_
  refine v_iconst (v := (-1)) C dX2_clear_12 (by decide) ?_
  refine v_callOv C (c_J7_fill hl (by decide)) ys_J7_fill_53178 ml_X2_34 (emb_row fix_mS ar_mS_2) rfl rfl rfl dX2_clear_13 (Nat.le_of_ble_eq_true rfl) (Nat.le_of_ble_eq_true rfl) (Nat.le_of_ble_eq_true rfl) (Nat.le_of_ble_eq_true rfl) (fun _ _ hu => hu.elim) (fun r u hu => ?_)
  obtain rfl := hu
  refine v_aload_n C dX2_clear_16 rfl ?_
  refine v_getr C fl_X2_18 or_mS_0_2 dX2_clear_17 ?_
  refine v_iconst (v := (-1)) C dX2_clear_20 (by decide) ?_
  refine v_callOv C (c_J7_fill hl (by decide)) ys_J7_fill_53178 ml_X2_34 (emb_row fix_mS ar_mS_3) rfl rfl rfl dX2_clear_21 (Nat.le_of_ble_eq_true rfl) (Nat.le_of_ble_eq_true rfl) (Nat.le_of_ble_eq_true rfl) (Nat.le_of_ble_eq_true rfl) (fun _ _ hu => hu.elim) (fun r u hu => ?_)
  obtain rfl := hu
  refine v_iconst (v := nI 0) C dX2_clear_24 (by decide) ?_
  refine v_istore_n C (lo2 := [some _, some _]) dX2_clear_25 rfl (Nat.le_of_ble_eq_true rfl) rfl ?_
  generalize hA : (sG (sG (sG g 1 (mix 96 (fun _ => nI 0) (g 1))) 2 (mix 96 (fun _ => -1) (sG g 1 (mix 96 (fun _ => nI 0) (g 1)) 2))) 3 (mix 96 (fun _ => -1) (sG (sG g 1 (mix 96 (fun _ => nI 0) (g 1))) 2 (mix 96 (fun _ => -1) (sG g 1 (mix 96 (fun _ => nI 0) (g 1)) 2)) 3))) = A
  have L26 : ∀ (t : Nat), (fun t => t ≤ 96) t → (fun t : Nat => V X (mS (xK X) h) 26 [some (.ref (h 0)), some (.int (nI t))] [] (sG A 4 (mix t (fun _ => nI 0) (A 4))) 0 0) t := by
    refine v_ind (fun t : Nat => 96 - t) ?_
    rintro t ih26 hI26
    try dsimp only at hI26 ⊢
    refine v_iload_n C dX2_clear_26 rfl ?_
    refine v_bipush (v := nI 96) C dX2_clear_27 (by decide) ?_
    first | refine v_icmp_geN C 45 dX2_clear_29 (by decide) (by omega) (by omega) (fun c29 => ?_) (fun c29 => ?_) | refine v_icmp_ge C 45 dX2_clear_29 (by decide) (fun c29 => ?_) (fun c29 => ?_)
    · refine v_aload_n C dX2_clear_45 rfl ?_
      refine v_getr C fl_X2_25 or_mS_0_4 dX2_clear_46 ?_
      refine v_iconst (v := nI 0) C dX2_clear_49 (by decide) ?_
      refine v_callOv C (c_J7_fill hl (by decide)) ys_J7_fill_53178 ml_X2_34 (emb_row fix_mS ar_mS_5) rfl rfl rfl dX2_clear_50 (Nat.le_of_ble_eq_true rfl) (Nat.le_of_ble_eq_true rfl) (Nat.le_of_ble_eq_true rfl) (Nat.le_of_ble_eq_true rfl) (fun _ _ hu => hu.elim) (fun r u hu => ?_)
      obtain rfl := hu
      refine v_aload_n C dX2_clear_53 rfl ?_
      refine v_getr C fl_X2_28 or_mS_0_5 dX2_clear_54 ?_
      refine v_iconst (v := nI 0) C dX2_clear_57 (by decide) ?_
      refine v_callOv C (c_J7_fill hl (by decide)) ys_J7_fill_53178 ml_X2_34 (emb_row fix_mS ar_mS_6) rfl rfl rfl dX2_clear_58 (Nat.le_of_ble_eq_true rfl) (Nat.le_of_ble_eq_true rfl) (Nat.le_of_ble_eq_true rfl) (Nat.le_of_ble_eq_true rfl) (fun _ _ hu => hu.elim) (fun r u hu => ?_)
      obtain rfl := hu
      refine v_aload_n C dX2_clear_61 rfl ?_
      refine v_iconst (v := nI 0) C dX2_clear_62 (by decide) ?_
      refine v_puti C fl_X2_40 fw_X2_7 oi_mS_0_7 ⟨rfl, rfl⟩ dX2_clear_63 ?_
      refine v_aload_n C dX2_clear_66 rfl ?_
      refine v_iconst (v := nI 0) C dX2_clear_67 (by decide) ?_
      refine v_puti C fl_X2_44 fw_X2_8 oi_mS_0_8 ⟨rfl, rfl⟩ dX2_clear_68 ?_
      have et : t = 96 := by omega
      subst et
      refine V.same (g2 := clrM (g 7)) fix_mS (same_mS ?_) ?_
      · subst hA
        exact ⟨rfl, rfl, fun p hp => ⟨(show mix 96 (fun _ => nI 0) (g 1) p = nI 0 from mix_in hp), (show mix 96 (fun _ => -1) (g 2) p = (if p < 96 then -1 else 0) from (mix_in hp).trans (if_pos hp).symm), (show mix 96 (fun _ => -1) (g 3) p = (if p < 96 then -1 else 0) from (mix_in hp).trans (if_pos hp).symm), (show mix 96 (fun _ => nI 0) (g 4) p = nI 0 from mix_in hp)⟩, fun p hp => (show mix 5 (fun _ => nI 0) (g 5) p = nI 0 from mix_in hp), fun p hp => (show mix 9 (fun _ => nI 0) (g 6) p = nI 0 from mix_in hp), fun p hp => rfl⟩
      refine v_vret C F dX2_clear_71 (Nat.le_of_ble_eq_true rfl) (Nat.le_of_ble_eq_true rfl) ?_
      first | exact rfl | exact ⟨rfl, rfl⟩
    · refine v_aload_n C dX2_clear_32 rfl ?_
      refine v_getr C fl_X2_21 or_mS_0_3 dX2_clear_33 ?_
      refine v_iload_n C dX2_clear_36 rfl ?_
      refine v_iconst (v := nI 0) C dX2_clear_37 (by decide) ?_
      refine v_zast C ar_mS_4 (by decide) _ ?_ rfl (by first | rfl | exact bI_vp _) dX2_clear_38 ?_
      · omega
      first | refine v_iinc1 C (lo2 := [some _, some _]) dX2_clear_39 rfl rfl rfl ?_ | refine v_iinc C (lo2 := [some _, some _]) dX2_clear_39 rfl rfl rfl rfl ?_
      refine v_goto C 26 dX2_clear_42 (by decide) ?_
      have H := ih26 (t + 1) (by show 96 - (t + 1) < 96 - t; omega) (by show t + 1 ≤ 96; omega)
      try dsimp only at H
      rw [← mix_s, ← sG_sG (f := mix t (fun _ => nI 0) (A 4))] at H
      exact H
  have H := L26 0 (by show 0 ≤ 96; omega)
  try dsimp only at H
  rw [mix_0, sG_id rfl] at H
  exact H
/-- locks are truth values -/
def LK (m : Mg) : Prop := ∀ p, p < 96 → ∃ b : Bool, m 4 p = bI b
set_option maxHeartbeats 16000000 in
theorem c_X2_takeFrom {l : Launch} (hl : l.stackTraces = false) {κ : Kp} {h : Nat → Nat} {g : Mg × Mg} (hL : LK g.2) : Ct SS MM l κ yX2_takeFrom cX2_takeFrom 3 none 0 0 0 [.ref (h 0), .ref (h 8)] (mmS κ h) g rv (fun _ u => u = (g.2, g.2)) (fun _ _ => False) := by
  refine Ct.of (own := RX2) (by decide) rfl hl (by intro v hv; simp only [List.mem_cons, List.not_mem_nil, or_false] at hv; first | (rcases hv with rfl | rfl | rfl | rfl | rfl | rfl <;> rfl) | (rcases hv with rfl | rfl | rfl | rfl | rfl <;> rfl) | (rcases hv with rfl | rfl | rfl | rfl <;> rfl) | (rcases hv with rfl | rfl | rfl <;> rfl) | (rcases hv with rfl | rfl <;> rfl) | (subst hv; rfl) | exact hv.elim) (Nat.le_of_ble_eq_true rfl) (fun X hxl hxk C F N => ?_)
  subst hxl hxk
  show V X (mmS (xK X) h) 0 [some (.ref (h 0)), some (.ref (h 8)), none] [] g 0 0
  refine v_aload_n C dX2_takeFrom_0 rfl ?_
  refine v_getr C fl_X2_9 or_mmS_8_0 dX2_takeFrom_1 ?_
  refine v_iconst (v := nI 0) C dX2_takeFrom_4 (by decide) ?_
  refine v_aload_n C dX2_takeFrom_5 rfl ?_
  refine v_getr C fl_X2_9 or_mmS_0_0 dX2_takeFrom_6 ?_
  refine v_iconst (v := nI 0) C dX2_takeFrom_9 (by decide) ?_
  refine v_bipush (v := nI 96) C dX2_takeFrom_10 (by decide) ?_
  refine v_copyi C ml_X2_47 w_acN w_acS w_acI ar_mmS_9 ar_mmS_1 96 (Nat.le_of_ble_eq_true rfl) (Nat.le_of_ble_eq_true rfl) (Nat.le_of_ble_eq_true rfl) rfl (Nat.le_of_ble_eq_true rfl) dX2_takeFrom_12 ?_
  refine v_aload_n C dX2_takeFrom_15 rfl ?_
  refine v_getr C fl_X2_15 or_mmS_8_1 dX2_takeFrom_16 ?_
  refine v_iconst (v := nI 0) C dX2_takeFrom_19 (by decide) ?_
  refine v_aload_n C dX2_takeFrom_20 rfl ?_
  refine v_getr C fl_X2_15 or_mmS_0_1 dX2_takeFrom_21 ?_
  refine v_iconst (v := nI 0) C dX2_takeFrom_24 (by decide) ?_
  refine v_bipush (v := nI 96) C dX2_takeFrom_25 (by decide) ?_
  refine v_copyi C ml_X2_47 w_acN w_acS w_acI ar_mmS_10 ar_mmS_2 96 (Nat.le_of_ble_eq_true rfl) (Nat.le_of_ble_eq_true rfl) (Nat.le_of_ble_eq_true rfl) rfl (Nat.le_of_ble_eq_true rfl) dX2_takeFrom_27 ?_
  refine v_aload_n C dX2_takeFrom_30 rfl ?_
  refine v_getr C fl_X2_18 or_mmS_8_2 dX2_takeFrom_31 ?_
  refine v_iconst (v := nI 0) C dX2_takeFrom_34 (by decide) ?_
  refine v_aload_n C dX2_takeFrom_35 rfl ?_
  refine v_getr C fl_X2_18 or_mmS_0_2 dX2_takeFrom_36 ?_
  refine v_iconst (v := nI 0) C dX2_takeFrom_39 (by decide) ?_
  refine v_bipush (v := nI 96) C dX2_takeFrom_40 (by decide) ?_
  refine v_copyi C ml_X2_47 w_acN w_acS w_acI ar_mmS_11 ar_mmS_3 96 (Nat.le_of_ble_eq_true rfl) (Nat.le_of_ble_eq_true rfl) (Nat.le_of_ble_eq_true rfl) rfl (Nat.le_of_ble_eq_true rfl) dX2_takeFrom_42 ?_
  refine v_iconst (v := nI 0) C dX2_takeFrom_45 (by decide) ?_
  refine v_istore_n C (lo2 := [some _, some _, some _]) dX2_takeFrom_46 rfl (Nat.le_of_ble_eq_true rfl) rfl ?_
  generalize hA : (sG (sG (sG g.1 1 (mix 96 (g.2 1) (g.1 1))) 2 (mix 96 (g.2 2) (sG g.1 1 (mix 96 (g.2 1) (g.1 1)) 2))) 3 (mix 96 (g.2 3) (sG (sG g.1 1 (mix 96 (g.2 1) (g.1 1))) 2 (mix 96 (g.2 2) (sG g.1 1 (mix 96 (g.2 1) (g.1 1)) 2)) 3))) = A
  have L47 : ∀ (t : Nat), (fun t => t ≤ 96) t → (fun t : Nat => V X (mmS (xK X) h) 47 [some (.ref (h 0)), some (.ref (h 8)), some (.int (nI t))] [] (sG A 4 (mix t (g.2 4) (A 4)), g.2) 0 0) t := by
    refine v_ind (fun t : Nat => 96 - t) ?_
    rintro t ih47 hI47
    try dsimp only at hI47 ⊢
    refine v_iload_n C dX2_takeFrom_47 rfl ?_
    refine v_bipush (v := nI 96) C dX2_takeFrom_48 (by decide) ?_
    first | refine v_icmp_geN C 71 dX2_takeFrom_50 (by decide) (by omega) (by omega) (fun c50 => ?_) (fun c50 => ?_) | refine v_icmp_ge C 71 dX2_takeFrom_50 (by decide) (fun c50 => ?_) (fun c50 => ?_)
    · refine v_aload_n C dX2_takeFrom_71 rfl ?_
      refine v_getr C fl_X2_25 or_mmS_8_4 dX2_takeFrom_72 ?_
      refine v_iconst (v := nI 0) C dX2_takeFrom_75 (by decide) ?_
      refine v_aload_n C dX2_takeFrom_76 rfl ?_
      refine v_getr C fl_X2_25 or_mmS_0_4 dX2_takeFrom_77 ?_
      refine v_iconst (v := nI 0) C dX2_takeFrom_80 (by decide) ?_
      refine v_iconst (v := nI 5) C dX2_takeFrom_81 (by decide) ?_
      refine v_copyi C ml_X2_47 w_acN w_acS w_acI ar_mmS_13 ar_mmS_5 5 (Nat.le_of_ble_eq_true rfl) (Nat.le_of_ble_eq_true rfl) (Nat.le_of_ble_eq_true rfl) rfl (Nat.le_of_ble_eq_true rfl) dX2_takeFrom_82 ?_
      refine v_aload_n C dX2_takeFrom_85 rfl ?_
      refine v_getr C fl_X2_28 or_mmS_8_5 dX2_takeFrom_86 ?_
      refine v_iconst (v := nI 0) C dX2_takeFrom_89 (by decide) ?_
      refine v_aload_n C dX2_takeFrom_90 rfl ?_
      refine v_getr C fl_X2_28 or_mmS_0_5 dX2_takeFrom_91 ?_
      refine v_iconst (v := nI 0) C dX2_takeFrom_94 (by decide) ?_
      refine v_bipush (v := nI 9) C dX2_takeFrom_95 (by decide) ?_
      refine v_copyi C ml_X2_47 w_acN w_acS w_acI ar_mmS_14 ar_mmS_6 9 (Nat.le_of_ble_eq_true rfl) (Nat.le_of_ble_eq_true rfl) (Nat.le_of_ble_eq_true rfl) rfl (Nat.le_of_ble_eq_true rfl) dX2_takeFrom_97 ?_
      refine v_aload_n C dX2_takeFrom_100 rfl ?_
      refine v_getr C fl_X2_31 or_mmS_8_6 dX2_takeFrom_101 ?_
      refine v_iconst (v := nI 0) C dX2_takeFrom_104 (by decide) ?_
      refine v_aload_n C dX2_takeFrom_105 rfl ?_
      refine v_getr C fl_X2_31 or_mmS_0_6 dX2_takeFrom_106 ?_
      refine v_iconst (v := nI 0) C dX2_takeFrom_109 (by decide) ?_
      refine v_sipush (v := nI 240) C dX2_takeFrom_110 (by decide) ?_
      refine v_copyi C ml_X2_47 w_acN w_acS w_acI ar_mmS_15 ar_mmS_7 240 (Nat.le_of_ble_eq_true rfl) (Nat.le_of_ble_eq_true rfl) (Nat.le_of_ble_eq_true rfl) rfl (Nat.le_of_ble_eq_true rfl) dX2_takeFrom_113 ?_
      refine v_aload_n C dX2_takeFrom_116 rfl ?_
      refine v_aload_n C dX2_takeFrom_117 rfl ?_
      refine v_geti C fl_X2_40 oi_mmS_8_7 dX2_takeFrom_118 ?_
      refine v_puti C fl_X2_40 fw_X2_7 oi_mmS_0_7 ⟨rfl, rfl⟩ dX2_takeFrom_121 ?_
      refine v_aload_n C dX2_takeFrom_124 rfl ?_
      refine v_aload_n C dX2_takeFrom_125 rfl ?_
      refine v_geti C fl_X2_44 oi_mmS_8_8 dX2_takeFrom_126 ?_
      refine v_puti C fl_X2_44 fw_X2_8 oi_mmS_0_8 ⟨rfl, rfl⟩ dX2_takeFrom_129 ?_
      have et : t = 96 := by omega
      subst et
      refine V.same (g2 := (g.2, g.2)) fix_mmS ((same_mS ?_).app .rfl) ?_
      · subst hA
        exact ⟨rfl, rfl, fun p hp => ⟨(show mix 96 (g.2 1) (g.1 1) p = g.2 1 p from mix_in hp), (show mix 96 (g.2 2) (g.1 2) p = g.2 2 p from mix_in hp), (show mix 96 (g.2 3) (g.1 3) p = g.2 3 p from mix_in hp), (show mix 96 (g.2 4) (g.1 4) p = g.2 4 p from mix_in hp)⟩, fun p hp => (show mix 5 (g.2 5) (g.1 5) p = g.2 5 p from mix_in hp), fun p hp => (show mix 9 (g.2 6) (g.1 6) p = g.2 6 p from mix_in hp), fun p hp => (show mix 240 (g.2 7) (g.1 7) p = g.2 7 p from mix_in hp)⟩
      refine v_vret C F dX2_takeFrom_132 (Nat.le_of_ble_eq_true rfl) (Nat.le_of_ble_eq_true rfl) ?_
      first | exact rfl | exact ⟨rfl, rfl⟩
    · refine v_aload_n C dX2_takeFrom_53 rfl ?_
      refine v_getr C fl_X2_21 or_mmS_0_3 dX2_takeFrom_54 ?_
      refine v_iload_n C dX2_takeFrom_57 rfl ?_
      refine v_aload_n C dX2_takeFrom_58 rfl ?_
      refine v_getr C fl_X2_21 or_mmS_8_3 dX2_takeFrom_59 ?_
      refine v_iload_n C dX2_takeFrom_62 rfl ?_
      refine v_zald C ar_mmS_12 (by decide) _ ?_ rfl dX2_takeFrom_63 ?_
      · omega
      refine v_zast C ar_mmS_4 (by decide) _ ?_ rfl ((by obtain ⟨b, hb⟩ := hL t (by omega); show vp_nar .boolean (g.2 4 t) = g.2 4 t; rw [hb]; exact bI_vp _)) dX2_takeFrom_64 ?_
      · omega
      first | refine v_iinc1 C (lo2 := [some _, some _, some _]) dX2_takeFrom_65 rfl rfl rfl ?_ | refine v_iinc C (lo2 := [some _, some _, some _]) dX2_takeFrom_65 rfl rfl rfl rfl ?_
      refine v_goto C 47 dX2_takeFrom_68 (by decide) ?_
      have H := ih47 (t + 1) (by show 96 - (t + 1) < 96 - t; omega) (by show t + 1 ≤ 96; omega)
      try dsimp only at H
      rw [← mix_s, ← sG_sG (f := mix t (g.2 4) (A 4))] at H
      exact H
  have H := L47 0 (by show 0 ≤ 96; omega)
  try dsimp only at H
  rw [mix_0, sG_id rfl] at H
  exact H
