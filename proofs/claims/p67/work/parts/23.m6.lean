/-! texts -/
/-- the text L stands there -/
def TX (L : List Int32) (g : G) : Prop := g 0 1 = nI L.length ∧ ∀ i, i < L.length → g 1 i = L.getD i 0
def numL (v : Nat) : List Int32 := (if 100 ≤ v then [nI (48 + v / 100)] else []) ++ (if 10 ≤ v then [nI (48 + v / 10 % 10)] else []) ++ [nI (48 + v % 10)]
theorem TX_add {L : List Int32} {g g2 : G} {c : Int32} (h : TX L g) (h1 : g2 1 = upd (g 1) L.length c) (h2 : g2 0 1 = nI (L.length + 1)) : TX (L ++ [c]) g2 := by
  refine ⟨by rw [h2, List.length_append]; rfl, fun i hi => ?_⟩
  rw [List.length_append] at hi
  have hi : i < L.length + 1 := hi
  rw [h1]
  by_cases z : i = L.length
  · subst z
    rw [upd_s, List.getD_eq_getElem?_getD, List.getElem?_append_right (Nat.le_refl _)]
    simp
  · rw [upd_o z, h.2 i (by omega), List.getD_eq_getElem?_getD, List.getD_eq_getElem?_getD, List.getElem?_append_left (by omega)]
set_option maxHeartbeats 4000000 in
theorem c_X4_clear {l : Launch} (hl : l.stackTraces = false) {κ : Kp} {h : Nat → Nat} {g : G}  : Ct SS MM l κ yX4_clear cX4_clear 1 none 0 0 0 [.ref (h 0)] (tS κ h) g rv (fun _ u => TX [] u) (fun _ _ => False) := by
  refine Ct.of (own := RX4) (by decide) rfl hl (by intro v hv; simp only [List.mem_cons, List.not_mem_nil, or_false] at hv; first | (rcases hv with rfl | rfl | rfl | rfl | rfl | rfl <;> rfl) | (rcases hv with rfl | rfl | rfl | rfl | rfl <;> rfl) | (rcases hv with rfl | rfl | rfl | rfl <;> rfl) | (rcases hv with rfl | rfl | rfl <;> rfl) | (rcases hv with rfl | rfl <;> rfl) | (subst hv; rfl) | exact hv.elim) (Nat.le_of_ble_eq_true rfl) (fun X hxl hxk C F N => ?_)
  subst hxl hxk
  show V X (tS (xK X) h) 0 [some (.ref (h 0))] [] g 0 0
  refine v_aload_n C dX4_clear_0 rfl ?_
  refine v_iconst (v := nI 0) C dX4_clear_1 (by decide) ?_
  refine v_puti C fl_X4_15 fw_X4_1 oi_tS_0_1 ⟨rfl, rfl⟩ dX4_clear_2 ?_
  refine v_vret C F dX4_clear_5 (Nat.le_of_ble_eq_true rfl) (Nat.le_of_ble_eq_true rfl) ?_
  exact ⟨rfl, fun i hi => absurd hi (Nat.not_lt_zero i)⟩
set_option maxHeartbeats 4000000 in
theorem c_X4_addSign {l : Launch} (hl : l.stackTraces = false) {κ : Kp} {h : Nat → Nat} {g : G} {L : List Int32} {c : Int32} (hT : TX L g) (hL : L.length < 864) : Ct SS MM l κ yX4_addSign cX4_addSign 2 none 0 0 0 [.ref (h 0), .int c] (tS κ h) g rv (fun _ u => TX (L ++ [c]) u) (fun _ _ => False) := by
  refine Ct.of (own := RX4) (by decide) rfl hl (by intro v hv; simp only [List.mem_cons, List.not_mem_nil, or_false] at hv; first | (rcases hv with rfl | rfl | rfl | rfl | rfl | rfl <;> rfl) | (rcases hv with rfl | rfl | rfl | rfl | rfl <;> rfl) | (rcases hv with rfl | rfl | rfl | rfl <;> rfl) | (rcases hv with rfl | rfl | rfl <;> rfl) | (rcases hv with rfl | rfl <;> rfl) | (subst hv; rfl) | exact hv.elim) (Nat.le_of_ble_eq_true rfl) (fun X hxl hxk C F N => ?_)
  subst hxl hxk
  show V X (tS (xK X) h) 0 [some (.ref (h 0)), some (.int c)] [] g 0 0
  refine v_aload_n C dX4_addSign_0 rfl ?_
  refine v_getiQ (x := nI L.length) C fl_X4_15 oi_tS_0_1 (hT.1) dX4_addSign_1 ?_
  refine v_aload_n C dX4_addSign_4 rfl ?_
  refine v_getr C fl_X4_9 or_tS_0_0 dX4_addSign_5 ?_
  refine v_alen C ar_tS_1 dX4_addSign_8 ?_
  first | refine v_icmp_geN C 32 dX4_addSign_9 (by decide) (by omega) (by omega) (fun c9 => ?_) (fun c9 => ?_) | refine v_icmp_ge C 32 dX4_addSign_9 (by decide) (fun c9 => ?_) (fun c9 => ?_)
  · exfalso
    omega
  · refine v_aload_n C dX4_addSign_12 rfl ?_
    refine v_getr C fl_X4_9 or_tS_0_0 dX4_addSign_13 ?_
    refine v_aload_n C dX4_addSign_16 rfl ?_
    refine v_getiQ (x := nI L.length) C fl_X4_15 oi_tS_0_1 (hT.1) dX4_addSign_17 ?_
    refine v_iload_n C dX4_addSign_20 rfl ?_
    refine v_iast C ar_tS_1 (by decide) _ ?_ rfl dX4_addSign_21 ?_
    · omega
    refine v_aload_n C dX4_addSign_22 rfl ?_
    refine v_dup C dX4_addSign_23 rfl ?_
    refine v_getiQ (x := nI L.length) C fl_X4_15 oi_tS_0_1 (hT.1) dX4_addSign_24 ?_
    refine v_iconst (v := nI 1) C dX4_addSign_27 (by decide) ?_
    first | refine v_iaddN C dX4_addSign_28 ?_ | refine v_iadd C dX4_addSign_28 ?_
    refine v_puti C fl_X4_15 fw_X4_1 oi_tS_0_1 ⟨rfl, rfl⟩ dX4_addSign_29 ?_
    refine v_vret C F dX4_addSign_32 (Nat.le_of_ble_eq_true rfl) (Nat.le_of_ble_eq_true rfl) ?_
    exact TX_add hT rfl rfl
set_option maxHeartbeats 4000000 in
theorem c_X4_addNumber {l : Launch} (hl : l.stackTraces = false) {κ : Kp} {h : Nat → Nat} {g : G} {L : List Int32} {v : Nat} (hT : TX L g) (hL : L.length + 3 ≤ 864) (hv : v < 1000) : Ct SS MM l κ yX4_addNumber cX4_addNumber 2 none 1 0 0 [.ref (h 0), .int (nI v)] (tS κ h) g rv (fun _ u => TX (L ++ numL v) u) (fun _ _ => False) := by
  refine Ct.of (own := RX4) (by decide) rfl hl (by intro v hv; simp only [List.mem_cons, List.not_mem_nil, or_false] at hv; first | (rcases hv with rfl | rfl | rfl | rfl | rfl | rfl <;> rfl) | (rcases hv with rfl | rfl | rfl | rfl | rfl <;> rfl) | (rcases hv with rfl | rfl | rfl | rfl <;> rfl) | (rcases hv with rfl | rfl | rfl <;> rfl) | (rcases hv with rfl | rfl <;> rfl) | (subst hv; rfl) | exact hv.elim) (Nat.le_of_ble_eq_true rfl) (fun X hxl hxk C F N => ?_)
  subst hxl hxk
  show V X (tS (xK X) h) 0 [some (.ref (h 0)), some (.int (nI v))] [] g 0 0
  refine v_iload_n C dX4_addNumber_0 rfl ?_
  refine v_bipush (v := nI 100) C dX4_addNumber_1 (by decide) ?_
  first | refine v_icmp_ltN C 17 dX4_addNumber_3 (by decide) (by omega) (by omega) (fun c3 => ?_) (fun c3 => ?_) | refine v_icmp_lt C 17 dX4_addNumber_3 (by decide) (fun c3 => ?_) (fun c3 => ?_)
  · have hX := hT
    refine v_iload_n C dX4_addNumber_17 rfl ?_
    refine v_bipush (v := nI 10) C dX4_addNumber_18 (by decide) ?_
    first | refine v_icmp_ltN C 37 dX4_addNumber_20 (by decide) (by omega) (by omega) (fun c20 => ?_) (fun c20 => ?_) | refine v_icmp_lt C 37 dX4_addNumber_20 (by decide) (fun c20 => ?_) (fun c20 => ?_)
    · have hY := hX
      refine v_aload_n C dX4_addNumber_37 rfl ?_
      refine v_bipush (v := nI 48) C dX4_addNumber_38 (by decide) ?_
      refine v_iload_n C dX4_addNumber_40 rfl ?_
      refine v_bipush (v := nI 10) C dX4_addNumber_41 (by decide) ?_
      refine v_iremN C dX4_addNumber_43 (by omega) (by omega) (by omega) ?_
      first | refine v_iaddN C dX4_addNumber_44 ?_ | refine v_iadd C dX4_addNumber_44 ?_
      refine v_callVv C (c_X4_addSign hl hY (by first | omega | (simp only [List.length_append, List.length_cons, List.length_nil]; omega))) ym_X4_addSign ml_X4_19 emb_id_tS rfl rfl rfl rfl rfl dX4_addNumber_45 (Nat.le_of_ble_eq_true rfl) (Nat.le_of_ble_eq_true rfl) (Nat.le_of_ble_eq_true rfl) (Nat.le_of_ble_eq_true rfl) (fun _ _ hu => hu.elim) (fun r u hu => ?_)
      have hT45 := hu
      refine v_vret C F dX4_addNumber_48 (Nat.le_of_ble_eq_true rfl) (Nat.le_of_ble_eq_true rfl) ?_
      have hz : ∀ b : Nat, (b ≤ v ∨ ¬ b ≤ v) := fun b => by omega
      have hN : numL v = numL v := rfl
      unfold numL at hN ⊢
      first
      | (exfalso; omega)
      | (rw [if_pos (show 100 ≤ v by omega), if_pos (show 10 ≤ v by omega)]; simpa using hT45)
      | (rw [if_neg (show ¬ 100 ≤ v by omega), if_pos (show 10 ≤ v by omega)]; simpa using hT45)
      | (rw [if_neg (show ¬ 100 ≤ v by omega), if_neg (show ¬ 10 ≤ v by omega)]; simpa using hT45)
    · refine v_aload_n C dX4_addNumber_23 rfl ?_
      refine v_bipush (v := nI 48) C dX4_addNumber_24 (by decide) ?_
      refine v_iload_n C dX4_addNumber_26 rfl ?_
      refine v_bipush (v := nI 10) C dX4_addNumber_27 (by decide) ?_
      refine v_idivN C dX4_addNumber_29 (by omega) (by omega) (by omega) ?_
      refine v_bipush (v := nI 10) C dX4_addNumber_30 (by decide) ?_
      refine v_iremN C dX4_addNumber_32 (by omega) (by omega) (by omega) ?_
      first | refine v_iaddN C dX4_addNumber_33 ?_ | refine v_iadd C dX4_addNumber_33 ?_
      refine v_callVv C (c_X4_addSign hl hX (by first | omega | (simp only [List.length_append, List.length_cons, List.length_nil]; omega))) ym_X4_addSign ml_X4_19 emb_id_tS rfl rfl rfl rfl rfl dX4_addNumber_34 (Nat.le_of_ble_eq_true rfl) (Nat.le_of_ble_eq_true rfl) (Nat.le_of_ble_eq_true rfl) (Nat.le_of_ble_eq_true rfl) (fun _ _ hu => hu.elim) (fun r u hu => ?_)
      have hY := hu
      refine v_aload_n C dX4_addNumber_37 rfl ?_
      refine v_bipush (v := nI 48) C dX4_addNumber_38 (by decide) ?_
      refine v_iload_n C dX4_addNumber_40 rfl ?_
      refine v_bipush (v := nI 10) C dX4_addNumber_41 (by decide) ?_
      refine v_iremN C dX4_addNumber_43 (by omega) (by omega) (by omega) ?_
      first | refine v_iaddN C dX4_addNumber_44 ?_ | refine v_iadd C dX4_addNumber_44 ?_
      refine v_callVv C (c_X4_addSign hl hY (by first | omega | (simp only [List.length_append, List.length_cons, List.length_nil]; omega))) ym_X4_addSign ml_X4_19 emb_id_tS rfl rfl rfl rfl rfl dX4_addNumber_45 (Nat.le_of_ble_eq_true rfl) (Nat.le_of_ble_eq_true rfl) (Nat.le_of_ble_eq_true rfl) (Nat.le_of_ble_eq_true rfl) (fun _ _ hu => hu.elim) (fun r u hu => ?_)
      have hT45 := hu
      refine v_vret C F dX4_addNumber_48 (Nat.le_of_ble_eq_true rfl) (Nat.le_of_ble_eq_true rfl) ?_
      have hz : ∀ b : Nat, (b ≤ v ∨ ¬ b ≤ v) := fun b => by omega
      have hN : numL v = numL v := rfl
      unfold numL at hN ⊢
      first
      | (exfalso; omega)
      | (rw [if_pos (show 100 ≤ v by omega), if_pos (show 10 ≤ v by omega)]; simpa using hT45)
      | (rw [if_neg (show ¬ 100 ≤ v by omega), if_pos (show 10 ≤ v by omega)]; simpa using hT45)
      | (rw [if_neg (show ¬ 100 ≤ v by omega), if_neg (show ¬ 10 ≤ v by omega)]; simpa using hT45)
  · refine v_aload_n C dX4_addNumber_6 rfl ?_
    refine v_bipush (v := nI 48) C dX4_addNumber_7 (by decide) ?_
    refine v_iload_n C dX4_addNumber_9 rfl ?_
    refine v_bipush (v := nI 100) C dX4_addNumber_10 (by decide) ?_
    refine v_idivN C dX4_addNumber_12 (by omega) (by omega) (by omega) ?_
    first | refine v_iaddN C dX4_addNumber_13 ?_ | refine v_iadd C dX4_addNumber_13 ?_
    refine v_callVv C (c_X4_addSign hl hT (by first | omega | (simp only [List.length_append, List.length_cons, List.length_nil]; omega))) ym_X4_addSign ml_X4_19 emb_id_tS rfl rfl rfl rfl rfl dX4_addNumber_14 (Nat.le_of_ble_eq_true rfl) (Nat.le_of_ble_eq_true rfl) (Nat.le_of_ble_eq_true rfl) (Nat.le_of_ble_eq_true rfl) (fun _ _ hu => hu.elim) (fun r u hu => ?_)
    have hX := hu
    refine v_iload_n C dX4_addNumber_17 rfl ?_
    refine v_bipush (v := nI 10) C dX4_addNumber_18 (by decide) ?_
    first | refine v_icmp_ltN C 37 dX4_addNumber_20 (by decide) (by omega) (by omega) (fun c20 => ?_) (fun c20 => ?_) | refine v_icmp_lt C 37 dX4_addNumber_20 (by decide) (fun c20 => ?_) (fun c20 => ?_)
    · have hY := hX
      refine v_aload_n C dX4_addNumber_37 rfl ?_
      refine v_bipush (v := nI 48) C dX4_addNumber_38 (by decide) ?_
      refine v_iload_n C dX4_addNumber_40 rfl ?_
      refine v_bipush (v := nI 10) C dX4_addNumber_41 (by decide) ?_
      refine v_iremN C dX4_addNumber_43 (by omega) (by omega) (by omega) ?_
      first | refine v_iaddN C dX4_addNumber_44 ?_ | refine v_iadd C dX4_addNumber_44 ?_
      refine v_callVv C (c_X4_addSign hl hY (by first | omega | (simp only [List.length_append, List.length_cons, List.length_nil]; omega))) ym_X4_addSign ml_X4_19 emb_id_tS rfl rfl rfl rfl rfl dX4_addNumber_45 (Nat.le_of_ble_eq_true rfl) (Nat.le_of_ble_eq_true rfl) (Nat.le_of_ble_eq_true rfl) (Nat.le_of_ble_eq_true rfl) (fun _ _ hu => hu.elim) (fun r u hu => ?_)
      have hT45 := hu
      refine v_vret C F dX4_addNumber_48 (Nat.le_of_ble_eq_true rfl) (Nat.le_of_ble_eq_true rfl) ?_
      have hz : ∀ b : Nat, (b ≤ v ∨ ¬ b ≤ v) := fun b => by omega
      have hN : numL v = numL v := rfl
      unfold numL at hN ⊢
      first
      | (exfalso; omega)
      | (rw [if_pos (show 100 ≤ v by omega), if_pos (show 10 ≤ v by omega)]; simpa using hT45)
      | (rw [if_neg (show ¬ 100 ≤ v by omega), if_pos (show 10 ≤ v by omega)]; simpa using hT45)
      | (rw [if_neg (show ¬ 100 ≤ v by omega), if_neg (show ¬ 10 ≤ v by omega)]; simpa using hT45)
    · refine v_aload_n C dX4_addNumber_23 rfl ?_
      refine v_bipush (v := nI 48) C dX4_addNumber_24 (by decide) ?_
      refine v_iload_n C dX4_addNumber_26 rfl ?_
      refine v_bipush (v := nI 10) C dX4_addNumber_27 (by decide) ?_
      refine v_idivN C dX4_addNumber_29 (by omega) (by omega) (by omega) ?_
      refine v_bipush (v := nI 10) C dX4_addNumber_30 (by decide) ?_
      refine v_iremN C dX4_addNumber_32 (by omega) (by omega) (by omega) ?_
      first | refine v_iaddN C dX4_addNumber_33 ?_ | refine v_iadd C dX4_addNumber_33 ?_
      refine v_callVv C (c_X4_addSign hl hX (by first | omega | (simp only [List.length_append, List.length_cons, List.length_nil]; omega))) ym_X4_addSign ml_X4_19 emb_id_tS rfl rfl rfl rfl rfl dX4_addNumber_34 (Nat.le_of_ble_eq_true rfl) (Nat.le_of_ble_eq_true rfl) (Nat.le_of_ble_eq_true rfl) (Nat.le_of_ble_eq_true rfl) (fun _ _ hu => hu.elim) (fun r u hu => ?_)
      have hY := hu
      refine v_aload_n C dX4_addNumber_37 rfl ?_
      refine v_bipush (v := nI 48) C dX4_addNumber_38 (by decide) ?_
      refine v_iload_n C dX4_addNumber_40 rfl ?_
      refine v_bipush (v := nI 10) C dX4_addNumber_41 (by decide) ?_
      refine v_iremN C dX4_addNumber_43 (by omega) (by omega) (by omega) ?_
      first | refine v_iaddN C dX4_addNumber_44 ?_ | refine v_iadd C dX4_addNumber_44 ?_
      refine v_callVv C (c_X4_addSign hl hY (by first | omega | (simp only [List.length_append, List.length_cons, List.length_nil]; omega))) ym_X4_addSign ml_X4_19 emb_id_tS rfl rfl rfl rfl rfl dX4_addNumber_45 (Nat.le_of_ble_eq_true rfl) (Nat.le_of_ble_eq_true rfl) (Nat.le_of_ble_eq_true rfl) (Nat.le_of_ble_eq_true rfl) (fun _ _ hu => hu.elim) (fun r u hu => ?_)
      have hT45 := hu
      refine v_vret C F dX4_addNumber_48 (Nat.le_of_ble_eq_true rfl) (Nat.le_of_ble_eq_true rfl) ?_
      have hz : ∀ b : Nat, (b ≤ v ∨ ¬ b ≤ v) := fun b => by omega
      have hN : numL v = numL v := rfl
      unfold numL at hN ⊢
      first
      | (exfalso; omega)
      | (rw [if_pos (show 100 ≤ v by omega), if_pos (show 10 ≤ v by omega)]; simpa using hT45)
      | (rw [if_neg (show ¬ 100 ≤ v by omega), if_pos (show 10 ≤ v by omega)]; simpa using hT45)
      | (rw [if_neg (show ¬ 100 ≤ v by omega), if_neg (show ¬ 10 ≤ v by omega)]; simpa using hT45)
/-! the ring of changes: L the memories that can come back, the last one first -/
def HS (L : List Mg) (g : Hg) : Prop := ∃ j, g.1 0 1 = nI j ∧ j < 8 ∧ g.1 0 2 = nI L.length ∧ L.length ≤ 8 ∧ ∀ i (hi : i < L.length), g.2 ((j + 7 - i) % 8) = L[i]
theorem fU_s {α : Type} {f : Nat → α} {j : Nat} {v : α} : fU f j v j = v := if_pos rfl
theorem fU_o {α : Type} {f : Nat → α} {j i : Nat} {v : α} (h : ¬ i = j) : fU f j v i = f i := if_neg h
theorem HS_push {L : List Mg} {g g2 : Hg} {m : Mg} {j : Nat} (hj : j < 8) (h1 : L.length ≤ 8) (h2 : ∀ i (hi : i < L.length), g.2 ((j + 7 - i) % 8) = L[i]) (e1 : g2.1 0 1 = nI ((j + 1) % 8)) (e2 : g2.1 0 2 = nI (min (L.length + 1) 8)) (e3 : g2.2 = fU g.2 j m) : HS ((m :: L).take 8) g2 := by
  refine ⟨(j + 1) % 8, e1, Nat.mod_lt _ (by decide), by rw [e2, List.length_take, List.length_cons]; exact congrArg nI (by omega), by rw [List.length_take]; omega, fun i hi => ?_⟩
  rw [List.length_take, List.length_cons] at hi
  rw [e3, List.getElem_take]
  cases i with
  | zero =>
    rw [show ((j + 1) % 8 + 7 - 0) % 8 = j by omega, fU_s]
    rfl
  | succ i =>
    rw [show ((j + 1) % 8 + 7 - (i + 1)) % 8 = (j + 7 - i) % 8 by omega, fU_o (by omega), h2 i (by omega)]
    rfl
theorem HS_pop {L : List Mg} {g g2 : Hg} {m : Mg} {j : Nat} (hj : j < 8) (h1 : (m :: L).length ≤ 8) (h2 : ∀ i (hi : i < (m :: L).length), g.2 ((j + 7 - i) % 8) = (m :: L)[i]) (e1 : g2.1 0 1 = nI ((j + 7) % 8)) (e2 : g2.1 0 2 = nI L.length) (e3 : g2.2 = g.2) : HS L g2 := by
  rw [List.length_cons] at h1
  refine ⟨(j + 7) % 8, e1, Nat.mod_lt _ (by decide), e2, by omega, fun i hi => ?_⟩
  rw [e3, show ((j + 7) % 8 + 7 - i) % 8 = (j + 7 - (i + 1)) % 8 by omega, h2 (i + 1) (by rw [List.length_cons]; omega)]
  rfl
set_option maxHeartbeats 4000000 in
theorem c_X1_forget {l : Launch} (hl : l.stackTraces = false) {κ : Kp} {h : Nat → Nat} {g : Hg} {L : List Mg} (hH : HS L g) : Ct SS MM l κ yX1_forget cX1_forget 1 none 0 0 0 [.ref (h 0)] (hS κ h) g rv (fun _ u => HS [] u) (fun _ _ => False) := by
  refine Ct.of (own := RX1) (by decide) rfl hl (by intro v hv; simp only [List.mem_cons, List.not_mem_nil, or_false] at hv; first | (rcases hv with rfl | rfl | rfl | rfl | rfl | rfl <;> rfl) | (rcases hv with rfl | rfl | rfl | rfl | rfl <;> rfl) | (rcases hv with rfl | rfl | rfl | rfl <;> rfl) | (rcases hv with rfl | rfl | rfl <;> rfl) | (rcases hv with rfl | rfl <;> rfl) | (subst hv; rfl) | exact hv.elim) (Nat.le_of_ble_eq_true rfl) (fun X hxl hxk C F N => ?_)
  subst hxl hxk
  show V X (hS (xK X) h) 0 [some (.ref (h 0))] [] g 0 0
  refine v_aload_n C dX1_forget_0 rfl ?_
  refine v_iconst (v := nI 0) C dX1_forget_1 (by decide) ?_
  refine v_puti C fl_X1_18 fw_X1_2 oi_hS_0_2 ⟨rfl, rfl⟩ dX1_forget_2 ?_
  refine v_vret C F dX1_forget_5 (Nat.le_of_ble_eq_true rfl) (Nat.le_of_ble_eq_true rfl) ?_
  obtain ⟨j, h1, h2, h3, h4, h5⟩ := hH
  exact ⟨j, h1, h2, rfl, Nat.zero_le _, fun i hi => absurd hi (Nat.not_lt_zero i)⟩
set_option maxHeartbeats 4000000 in
theorem c_X1_remember_0 {l : Launch} (hl : l.stackTraces = false) {κ : Kp} {h : Nat → Nat} {g : Hg} {m : Mg} {L : List Mg} (hj : g.1 0 1 = nI 0) (hc : g.1 0 2 = nI L.length) (h8 : L.length ≤ 8) (hk : ∀ i (hi : i < L.length), g.2 ((0 + 7 - i) % 8) = L[i]) (hL : LK m) : Ct SS MM l κ yX1_remember cX1_remember 2 none 1 0 0 [.ref (h 0), .ref (h 66)] (hmS κ h) (g, m) rv (fun _ u => u.2 = m ∧ HS ((m :: L).take 8) u.1) (fun _ _ => False) := by
  refine Ct.of (own := RX1) (by decide) rfl hl (by intro v hv; simp only [List.mem_cons, List.not_mem_nil, or_false] at hv; first | (rcases hv with rfl | rfl | rfl | rfl | rfl | rfl <;> rfl) | (rcases hv with rfl | rfl | rfl | rfl | rfl <;> rfl) | (rcases hv with rfl | rfl | rfl | rfl <;> rfl) | (rcases hv with rfl | rfl | rfl <;> rfl) | (rcases hv with rfl | rfl <;> rfl) | (subst hv; rfl) | exact hv.elim) (Nat.le_of_ble_eq_true rfl) (fun X hxl hxk C F N => ?_)
  subst hxl hxk
  show V X (hmS (xK X) h) 0 [some (.ref (h 0)), some (.ref (h 66))] [] (g, m) 0 0
  refine v_aload_n C dX1_remember_0 rfl ?_
  refine v_getr C fl_X1_11 or_hmS_0_0 dX1_remember_1 ?_
  refine v_aload_n C dX1_remember_4 rfl ?_
  refine v_getiQ (x := nI 0) C fl_X1_22 oi_hmS_0_1 (hj) dX1_remember_5 ?_
  refine v_aald C aq_hmS_1 (by decide) _ ?_ rfl rfl dX1_remember_8 ?_
  · omega
  refine v_aload_n C dX1_remember_9 rfl ?_
  refine v_callVv C (c_X2_takeFrom hl (h := h2at 2 66 h) (g := (g.2 0, m)) hL) ym_X2_takeFrom ml_X1_25 emb_hm_r0 rfl rfl rfl rfl rfl dX1_remember_10 (Nat.le_of_ble_eq_true rfl) (Nat.le_of_ble_eq_true rfl) (Nat.le_of_ble_eq_true rfl) (Nat.le_of_ble_eq_true rfl) (fun _ _ hu => hu.elim) (fun r u hu => ?_)
  subst u
  refine v_aload_n C dX1_remember_13 rfl ?_
  refine v_aload_n C dX1_remember_14 rfl ?_
  refine v_getiQ (x := nI 0) C fl_X1_22 oi_hmS_0_1 (hj) dX1_remember_15 ?_
  refine v_iconst (v := nI 1) C dX1_remember_18 (by decide) ?_
  first | refine v_iaddN C dX1_remember_19 ?_ | refine v_iadd C dX1_remember_19 ?_
  refine v_bipush (v := nI 8) C dX1_remember_20 (by decide) ?_
  first | refine v_icmp_geN C 34 dX1_remember_22 (by decide) (by omega) (by omega) (fun c22 => ?_) (fun c22 => ?_) | refine v_icmp_ge C 34 dX1_remember_22 (by decide) (fun c22 => ?_) (fun c22 => ?_)
  · exfalso
    omega
  · refine v_aload_n C dX1_remember_25 rfl ?_
    refine v_getiQ (x := nI 0) C fl_X1_22 oi_hmS_0_1 (hj) dX1_remember_26 ?_
    refine v_iconst (v := nI 1) C dX1_remember_29 (by decide) ?_
    first | refine v_iaddN C dX1_remember_30 ?_ | refine v_iadd C dX1_remember_30 ?_
    refine v_goto C 35 dX1_remember_31 (by decide) ?_
    refine v_puti C fl_X1_22 fw_X1_1 oi_hmS_0_1 ⟨rfl, rfl⟩ dX1_remember_35 ?_
    refine v_aload_n C dX1_remember_38 rfl ?_
    refine v_aload_n C dX1_remember_39 rfl ?_
    refine v_getiQ (x := nI L.length) C fl_X1_18 oi_hmS_0_2 (hc) dX1_remember_40 ?_
    refine v_iconst (v := nI 1) C dX1_remember_43 (by decide) ?_
    first | refine v_iaddN C dX1_remember_44 ?_ | refine v_iadd C dX1_remember_44 ?_
    refine v_bipush (v := nI 8) C dX1_remember_45 (by decide) ?_
    refine v_mmin (z := nI (min (L.length + 1) 8)) C ml_X1_29 w_minS w_mI w_minC rfl (Nat.le_of_ble_eq_true rfl) dX1_remember_47 (Nat.le_of_ble_eq_true rfl) (Nat.le_of_ble_eq_true rfl) ?_ ?_
    · exact nI_min (by omega) (by omega)
    refine v_puti C fl_X1_18 fw_X1_2 oi_hmS_0_2 ⟨rfl, rfl⟩ dX1_remember_50 ?_
    refine v_vret C F dX1_remember_53 (Nat.le_of_ble_eq_true rfl) (Nat.le_of_ble_eq_true rfl) ?_
    exact ⟨rfl, HS_push (g := g) (j := 0) (by omega) h8 hk rfl rfl rfl⟩
set_option maxHeartbeats 4000000 in
theorem c_X1_goBack_0 {l : Launch} (hl : l.stackTraces = false) {κ : Kp} {h : Nat → Nat} {g : Hg} {m x : Mg} {L : List Mg} (hj : g.1 0 1 = nI 0) (hc : g.1 0 2 = nI (L.length + 1)) (h8 : (x :: L).length ≤ 8) (hk : ∀ i (hi : i < (x :: L).length), g.2 ((0 + 7 - i) % 8) = (x :: L)[i]) (hL : LK x) : Ct SS MM l κ yX1_goBack cX1_goBack 2 none 1 0 0 [.ref (h 0), .ref (h 66)] (hmS κ h) (g, m) rv (fun _ u => u.2 = x ∧ HS L u.1) (fun _ _ => False) := by
  refine Ct.of (own := RX1) (by decide) rfl hl (by intro v hv; simp only [List.mem_cons, List.not_mem_nil, or_false] at hv; first | (rcases hv with rfl | rfl | rfl | rfl | rfl | rfl <;> rfl) | (rcases hv with rfl | rfl | rfl | rfl | rfl <;> rfl) | (rcases hv with rfl | rfl | rfl | rfl <;> rfl) | (rcases hv with rfl | rfl | rfl <;> rfl) | (rcases hv with rfl | rfl <;> rfl) | (subst hv; rfl) | exact hv.elim) (Nat.le_of_ble_eq_true rfl) (fun X hxl hxk C F N => ?_)
  subst hxl hxk
  show V X (hmS (xK X) h) 0 [some (.ref (h 0)), some (.ref (h 66))] [] (g, m) 0 0
  have hx : g.2 7 = x := hk 0 (Nat.zero_lt_succ _)
  have h8b : L.length + 1 ≤ 8 := h8
  refine v_aload_n C dX1_goBack_0 rfl ?_
  refine v_aload_n C dX1_goBack_1 rfl ?_
  refine v_getiQ (x := nI 0) C fl_X1_22 oi_hmS_0_1 (hj) dX1_goBack_2 ?_
  refine v_if_le C 17 dX1_goBack_5 (by decide) (fun c5 => ?_) (fun c5 => ?_)
  · refine v_bipush (v := nI 7) C dX1_goBack_17 (by decide) ?_
    refine v_puti C fl_X1_22 fw_X1_1 oi_hmS_0_1 ⟨rfl, rfl⟩ dX1_goBack_19 ?_
    refine v_aload_n C dX1_goBack_22 rfl ?_
    refine v_aload_n C dX1_goBack_23 rfl ?_
    refine v_getr C fl_X1_11 or_hmS_0_0 dX1_goBack_24 ?_
    refine v_aload_n C dX1_goBack_27 rfl ?_
    refine v_getiQ (x := nI 7) C fl_X1_22 oi_hmS_0_1 (rfl) dX1_goBack_28 ?_
    refine v_aald C aq_hmS_1 (by decide) _ ?_ rfl rfl dX1_goBack_31 ?_
    · omega
    refine v_callVv C (c_X2_takeFrom hl (h := h2at 66 58 h) (g := (m, g.2 7)) (by rw [show (m, g.2 7).2 = x from hx]; exact hL)) ym_X2_takeFrom ml_X1_25 emb_hm_b7 rfl rfl rfl rfl rfl dX1_goBack_32 (Nat.le_of_ble_eq_true rfl) (Nat.le_of_ble_eq_true rfl) (Nat.le_of_ble_eq_true rfl) (Nat.le_of_ble_eq_true rfl) (fun _ _ hu => hu.elim) (fun r u hu => ?_)
    subst u
    refine v_aload_n C dX1_goBack_35 rfl ?_
    refine v_dup C dX1_goBack_36 rfl ?_
    refine v_getiQ (x := nI (L.length + 1)) C fl_X1_18 oi_hmS_0_2 (hc) dX1_goBack_37 ?_
    refine v_iconst (v := nI 1) C dX1_goBack_40 (by decide) ?_
    first | refine v_isubN C dX1_goBack_41 (by omega) ?_ | refine v_isub C dX1_goBack_41 ?_
    refine v_puti C fl_X1_18 fw_X1_2 oi_hmS_0_2 ⟨rfl, rfl⟩ dX1_goBack_42 ?_
    refine v_vret C F dX1_goBack_45 (Nat.le_of_ble_eq_true rfl) (Nat.le_of_ble_eq_true rfl) ?_
    exact ⟨hx, HS_pop (g := g) (j := 0) (by omega) h8 hk rfl rfl (funext fun i => by by_cases z : i = 7 <;> simp [fU, z])⟩
  · exact absurd c5 (by decide)
set_option maxHeartbeats 4000000 in
theorem c_X1_remember_1 {l : Launch} (hl : l.stackTraces = false) {κ : Kp} {h : Nat → Nat} {g : Hg} {m : Mg} {L : List Mg} (hj : g.1 0 1 = nI 1) (hc : g.1 0 2 = nI L.length) (h8 : L.length ≤ 8) (hk : ∀ i (hi : i < L.length), g.2 ((1 + 7 - i) % 8) = L[i]) (hL : LK m) : Ct SS MM l κ yX1_remember cX1_remember 2 none 1 0 0 [.ref (h 0), .ref (h 66)] (hmS κ h) (g, m) rv (fun _ u => u.2 = m ∧ HS ((m :: L).take 8) u.1) (fun _ _ => False) := by
  refine Ct.of (own := RX1) (by decide) rfl hl (by intro v hv; simp only [List.mem_cons, List.not_mem_nil, or_false] at hv; first | (rcases hv with rfl | rfl | rfl | rfl | rfl | rfl <;> rfl) | (rcases hv with rfl | rfl | rfl | rfl | rfl <;> rfl) | (rcases hv with rfl | rfl | rfl | rfl <;> rfl) | (rcases hv with rfl | rfl | rfl <;> rfl) | (rcases hv with rfl | rfl <;> rfl) | (subst hv; rfl) | exact hv.elim) (Nat.le_of_ble_eq_true rfl) (fun X hxl hxk C F N => ?_)
  subst hxl hxk
  show V X (hmS (xK X) h) 0 [some (.ref (h 0)), some (.ref (h 66))] [] (g, m) 0 0
  refine v_aload_n C dX1_remember_0 rfl ?_
  refine v_getr C fl_X1_11 or_hmS_0_0 dX1_remember_1 ?_
  refine v_aload_n C dX1_remember_4 rfl ?_
  refine v_getiQ (x := nI 1) C fl_X1_22 oi_hmS_0_1 (hj) dX1_remember_5 ?_
  refine v_aald C aq_hmS_1 (by decide) _ ?_ rfl rfl dX1_remember_8 ?_
  · omega
  refine v_aload_n C dX1_remember_9 rfl ?_
  refine v_callVv C (c_X2_takeFrom hl (h := h2at 10 66 h) (g := (g.2 1, m)) hL) ym_X2_takeFrom ml_X1_25 emb_hm_r1 rfl rfl rfl rfl rfl dX1_remember_10 (Nat.le_of_ble_eq_true rfl) (Nat.le_of_ble_eq_true rfl) (Nat.le_of_ble_eq_true rfl) (Nat.le_of_ble_eq_true rfl) (fun _ _ hu => hu.elim) (fun r u hu => ?_)
  subst u
  refine v_aload_n C dX1_remember_13 rfl ?_
  refine v_aload_n C dX1_remember_14 rfl ?_
  refine v_getiQ (x := nI 1) C fl_X1_22 oi_hmS_0_1 (hj) dX1_remember_15 ?_
  refine v_iconst (v := nI 1) C dX1_remember_18 (by decide) ?_
  first | refine v_iaddN C dX1_remember_19 ?_ | refine v_iadd C dX1_remember_19 ?_
  refine v_bipush (v := nI 8) C dX1_remember_20 (by decide) ?_
  first | refine v_icmp_geN C 34 dX1_remember_22 (by decide) (by omega) (by omega) (fun c22 => ?_) (fun c22 => ?_) | refine v_icmp_ge C 34 dX1_remember_22 (by decide) (fun c22 => ?_) (fun c22 => ?_)
  · exfalso
    omega
  · refine v_aload_n C dX1_remember_25 rfl ?_
    refine v_getiQ (x := nI 1) C fl_X1_22 oi_hmS_0_1 (hj) dX1_remember_26 ?_
    refine v_iconst (v := nI 1) C dX1_remember_29 (by decide) ?_
    first | refine v_iaddN C dX1_remember_30 ?_ | refine v_iadd C dX1_remember_30 ?_
    refine v_goto C 35 dX1_remember_31 (by decide) ?_
    refine v_puti C fl_X1_22 fw_X1_1 oi_hmS_0_1 ⟨rfl, rfl⟩ dX1_remember_35 ?_
    refine v_aload_n C dX1_remember_38 rfl ?_
    refine v_aload_n C dX1_remember_39 rfl ?_
    refine v_getiQ (x := nI L.length) C fl_X1_18 oi_hmS_0_2 (hc) dX1_remember_40 ?_
    refine v_iconst (v := nI 1) C dX1_remember_43 (by decide) ?_
    first | refine v_iaddN C dX1_remember_44 ?_ | refine v_iadd C dX1_remember_44 ?_
    refine v_bipush (v := nI 8) C dX1_remember_45 (by decide) ?_
    refine v_mmin (z := nI (min (L.length + 1) 8)) C ml_X1_29 w_minS w_mI w_minC rfl (Nat.le_of_ble_eq_true rfl) dX1_remember_47 (Nat.le_of_ble_eq_true rfl) (Nat.le_of_ble_eq_true rfl) ?_ ?_
    · exact nI_min (by omega) (by omega)
    refine v_puti C fl_X1_18 fw_X1_2 oi_hmS_0_2 ⟨rfl, rfl⟩ dX1_remember_50 ?_
    refine v_vret C F dX1_remember_53 (Nat.le_of_ble_eq_true rfl) (Nat.le_of_ble_eq_true rfl) ?_
    exact ⟨rfl, HS_push (g := g) (j := 1) (by omega) h8 hk rfl rfl rfl⟩
set_option maxHeartbeats 4000000 in
theorem c_X1_goBack_1 {l : Launch} (hl : l.stackTraces = false) {κ : Kp} {h : Nat → Nat} {g : Hg} {m x : Mg} {L : List Mg} (hj : g.1 0 1 = nI 1) (hc : g.1 0 2 = nI (L.length + 1)) (h8 : (x :: L).length ≤ 8) (hk : ∀ i (hi : i < (x :: L).length), g.2 ((1 + 7 - i) % 8) = (x :: L)[i]) (hL : LK x) : Ct SS MM l κ yX1_goBack cX1_goBack 2 none 1 0 0 [.ref (h 0), .ref (h 66)] (hmS κ h) (g, m) rv (fun _ u => u.2 = x ∧ HS L u.1) (fun _ _ => False) := by
  refine Ct.of (own := RX1) (by decide) rfl hl (by intro v hv; simp only [List.mem_cons, List.not_mem_nil, or_false] at hv; first | (rcases hv with rfl | rfl | rfl | rfl | rfl | rfl <;> rfl) | (rcases hv with rfl | rfl | rfl | rfl | rfl <;> rfl) | (rcases hv with rfl | rfl | rfl | rfl <;> rfl) | (rcases hv with rfl | rfl | rfl <;> rfl) | (rcases hv with rfl | rfl <;> rfl) | (subst hv; rfl) | exact hv.elim) (Nat.le_of_ble_eq_true rfl) (fun X hxl hxk C F N => ?_)
  subst hxl hxk
  show V X (hmS (xK X) h) 0 [some (.ref (h 0)), some (.ref (h 66))] [] (g, m) 0 0
  have hx : g.2 0 = x := hk 0 (Nat.zero_lt_succ _)
  have h8b : L.length + 1 ≤ 8 := h8
  refine v_aload_n C dX1_goBack_0 rfl ?_
  refine v_aload_n C dX1_goBack_1 rfl ?_
  refine v_getiQ (x := nI 1) C fl_X1_22 oi_hmS_0_1 (hj) dX1_goBack_2 ?_
  refine v_if_le C 17 dX1_goBack_5 (by decide) (fun c5 => ?_) (fun c5 => ?_)
  · exact absurd c5 (by decide)
  · refine v_aload_n C dX1_goBack_8 rfl ?_
    refine v_getiQ (x := nI 1) C fl_X1_22 oi_hmS_0_1 (hj) dX1_goBack_9 ?_
    refine v_iconst (v := nI 1) C dX1_goBack_12 (by decide) ?_
    first | refine v_isubN C dX1_goBack_13 (by omega) ?_ | refine v_isub C dX1_goBack_13 ?_
    refine v_goto C 19 dX1_goBack_14 (by decide) ?_
    refine v_puti C fl_X1_22 fw_X1_1 oi_hmS_0_1 ⟨rfl, rfl⟩ dX1_goBack_19 ?_
    refine v_aload_n C dX1_goBack_22 rfl ?_
    refine v_aload_n C dX1_goBack_23 rfl ?_
    refine v_getr C fl_X1_11 or_hmS_0_0 dX1_goBack_24 ?_
    refine v_aload_n C dX1_goBack_27 rfl ?_
    refine v_getiQ (x := nI 0) C fl_X1_22 oi_hmS_0_1 (rfl) dX1_goBack_28 ?_
    refine v_aald C aq_hmS_1 (by decide) _ ?_ rfl rfl dX1_goBack_31 ?_
    · omega
    refine v_callVv C (c_X2_takeFrom hl (h := h2at 66 2 h) (g := (m, g.2 0)) (by rw [show (m, g.2 0).2 = x from hx]; exact hL)) ym_X2_takeFrom ml_X1_25 emb_hm_b0 rfl rfl rfl rfl rfl dX1_goBack_32 (Nat.le_of_ble_eq_true rfl) (Nat.le_of_ble_eq_true rfl) (Nat.le_of_ble_eq_true rfl) (Nat.le_of_ble_eq_true rfl) (fun _ _ hu => hu.elim) (fun r u hu => ?_)
    subst u
    refine v_aload_n C dX1_goBack_35 rfl ?_
    refine v_dup C dX1_goBack_36 rfl ?_
    refine v_getiQ (x := nI (L.length + 1)) C fl_X1_18 oi_hmS_0_2 (hc) dX1_goBack_37 ?_
    refine v_iconst (v := nI 1) C dX1_goBack_40 (by decide) ?_
    first | refine v_isubN C dX1_goBack_41 (by omega) ?_ | refine v_isub C dX1_goBack_41 ?_
    refine v_puti C fl_X1_18 fw_X1_2 oi_hmS_0_2 ⟨rfl, rfl⟩ dX1_goBack_42 ?_
    refine v_vret C F dX1_goBack_45 (Nat.le_of_ble_eq_true rfl) (Nat.le_of_ble_eq_true rfl) ?_
    exact ⟨hx, HS_pop (g := g) (j := 1) (by omega) h8 hk rfl rfl (funext fun i => by by_cases z : i = 0 <;> simp [fU, z])⟩
set_option maxHeartbeats 4000000 in
theorem c_X1_remember_2 {l : Launch} (hl : l.stackTraces = false) {κ : Kp} {h : Nat → Nat} {g : Hg} {m : Mg} {L : List Mg} (hj : g.1 0 1 = nI 2) (hc : g.1 0 2 = nI L.length) (h8 : L.length ≤ 8) (hk : ∀ i (hi : i < L.length), g.2 ((2 + 7 - i) % 8) = L[i]) (hL : LK m) : Ct SS MM l κ yX1_remember cX1_remember 2 none 1 0 0 [.ref (h 0), .ref (h 66)] (hmS κ h) (g, m) rv (fun _ u => u.2 = m ∧ HS ((m :: L).take 8) u.1) (fun _ _ => False) := by
  refine Ct.of (own := RX1) (by decide) rfl hl (by intro v hv; simp only [List.mem_cons, List.not_mem_nil, or_false] at hv; first | (rcases hv with rfl | rfl | rfl | rfl | rfl | rfl <;> rfl) | (rcases hv with rfl | rfl | rfl | rfl | rfl <;> rfl) | (rcases hv with rfl | rfl | rfl | rfl <;> rfl) | (rcases hv with rfl | rfl | rfl <;> rfl) | (rcases hv with rfl | rfl <;> rfl) | (subst hv; rfl) | exact hv.elim) (Nat.le_of_ble_eq_true rfl) (fun X hxl hxk C F N => ?_)
  subst hxl hxk
  show V X (hmS (xK X) h) 0 [some (.ref (h 0)), some (.ref (h 66))] [] (g, m) 0 0
  refine v_aload_n C dX1_remember_0 rfl ?_
  refine v_getr C fl_X1_11 or_hmS_0_0 dX1_remember_1 ?_
  refine v_aload_n C dX1_remember_4 rfl ?_
  refine v_getiQ (x := nI 2) C fl_X1_22 oi_hmS_0_1 (hj) dX1_remember_5 ?_
  refine v_aald C aq_hmS_1 (by decide) _ ?_ rfl rfl dX1_remember_8 ?_
  · omega
  refine v_aload_n C dX1_remember_9 rfl ?_
  refine v_callVv C (c_X2_takeFrom hl (h := h2at 18 66 h) (g := (g.2 2, m)) hL) ym_X2_takeFrom ml_X1_25 emb_hm_r2 rfl rfl rfl rfl rfl dX1_remember_10 (Nat.le_of_ble_eq_true rfl) (Nat.le_of_ble_eq_true rfl) (Nat.le_of_ble_eq_true rfl) (Nat.le_of_ble_eq_true rfl) (fun _ _ hu => hu.elim) (fun r u hu => ?_)
  subst u
  refine v_aload_n C dX1_remember_13 rfl ?_
  refine v_aload_n C dX1_remember_14 rfl ?_
  refine v_getiQ (x := nI 2) C fl_X1_22 oi_hmS_0_1 (hj) dX1_remember_15 ?_
  refine v_iconst (v := nI 1) C dX1_remember_18 (by decide) ?_
  first | refine v_iaddN C dX1_remember_19 ?_ | refine v_iadd C dX1_remember_19 ?_
  refine v_bipush (v := nI 8) C dX1_remember_20 (by decide) ?_
  first | refine v_icmp_geN C 34 dX1_remember_22 (by decide) (by omega) (by omega) (fun c22 => ?_) (fun c22 => ?_) | refine v_icmp_ge C 34 dX1_remember_22 (by decide) (fun c22 => ?_) (fun c22 => ?_)
  · exfalso
    omega
  · refine v_aload_n C dX1_remember_25 rfl ?_
    refine v_getiQ (x := nI 2) C fl_X1_22 oi_hmS_0_1 (hj) dX1_remember_26 ?_
    refine v_iconst (v := nI 1) C dX1_remember_29 (by decide) ?_
    first | refine v_iaddN C dX1_remember_30 ?_ | refine v_iadd C dX1_remember_30 ?_
    refine v_goto C 35 dX1_remember_31 (by decide) ?_
    refine v_puti C fl_X1_22 fw_X1_1 oi_hmS_0_1 ⟨rfl, rfl⟩ dX1_remember_35 ?_
    refine v_aload_n C dX1_remember_38 rfl ?_
    refine v_aload_n C dX1_remember_39 rfl ?_
    refine v_getiQ (x := nI L.length) C fl_X1_18 oi_hmS_0_2 (hc) dX1_remember_40 ?_
    refine v_iconst (v := nI 1) C dX1_remember_43 (by decide) ?_
    first | refine v_iaddN C dX1_remember_44 ?_ | refine v_iadd C dX1_remember_44 ?_
    refine v_bipush (v := nI 8) C dX1_remember_45 (by decide) ?_
    refine v_mmin (z := nI (min (L.length + 1) 8)) C ml_X1_29 w_minS w_mI w_minC rfl (Nat.le_of_ble_eq_true rfl) dX1_remember_47 (Nat.le_of_ble_eq_true rfl) (Nat.le_of_ble_eq_true rfl) ?_ ?_
    · exact nI_min (by omega) (by omega)
    refine v_puti C fl_X1_18 fw_X1_2 oi_hmS_0_2 ⟨rfl, rfl⟩ dX1_remember_50 ?_
    refine v_vret C F dX1_remember_53 (Nat.le_of_ble_eq_true rfl) (Nat.le_of_ble_eq_true rfl) ?_
    exact ⟨rfl, HS_push (g := g) (j := 2) (by omega) h8 hk rfl rfl rfl⟩
set_option maxHeartbeats 4000000 in
theorem c_X1_goBack_2 {l : Launch} (hl : l.stackTraces = false) {κ : Kp} {h : Nat → Nat} {g : Hg} {m x : Mg} {L : List Mg} (hj : g.1 0 1 = nI 2) (hc : g.1 0 2 = nI (L.length + 1)) (h8 : (x :: L).length ≤ 8) (hk : ∀ i (hi : i < (x :: L).length), g.2 ((2 + 7 - i) % 8) = (x :: L)[i]) (hL : LK x) : Ct SS MM l κ yX1_goBack cX1_goBack 2 none 1 0 0 [.ref (h 0), .ref (h 66)] (hmS κ h) (g, m) rv (fun _ u => u.2 = x ∧ HS L u.1) (fun _ _ => False) := by
  refine Ct.of (own := RX1) (by decide) rfl hl (by intro v hv; simp only [List.mem_cons, List.not_mem_nil, or_false] at hv; first | (rcases hv with rfl | rfl | rfl | rfl | rfl | rfl <;> rfl) | (rcases hv with rfl | rfl | rfl | rfl | rfl <;> rfl) | (rcases hv with rfl | rfl | rfl | rfl <;> rfl) | (rcases hv with rfl | rfl | rfl <;> rfl) | (rcases hv with rfl | rfl <;> rfl) | (subst hv; rfl) | exact hv.elim) (Nat.le_of_ble_eq_true rfl) (fun X hxl hxk C F N => ?_)
  subst hxl hxk
  show V X (hmS (xK X) h) 0 [some (.ref (h 0)), some (.ref (h 66))] [] (g, m) 0 0
  have hx : g.2 1 = x := hk 0 (Nat.zero_lt_succ _)
  have h8b : L.length + 1 ≤ 8 := h8
  refine v_aload_n C dX1_goBack_0 rfl ?_
  refine v_aload_n C dX1_goBack_1 rfl ?_
  refine v_getiQ (x := nI 2) C fl_X1_22 oi_hmS_0_1 (hj) dX1_goBack_2 ?_
  refine v_if_le C 17 dX1_goBack_5 (by decide) (fun c5 => ?_) (fun c5 => ?_)
  · exact absurd c5 (by decide)
  · refine v_aload_n C dX1_goBack_8 rfl ?_
    refine v_getiQ (x := nI 2) C fl_X1_22 oi_hmS_0_1 (hj) dX1_goBack_9 ?_
    refine v_iconst (v := nI 1) C dX1_goBack_12 (by decide) ?_
    first | refine v_isubN C dX1_goBack_13 (by omega) ?_ | refine v_isub C dX1_goBack_13 ?_
    refine v_goto C 19 dX1_goBack_14 (by decide) ?_
    refine v_puti C fl_X1_22 fw_X1_1 oi_hmS_0_1 ⟨rfl, rfl⟩ dX1_goBack_19 ?_
    refine v_aload_n C dX1_goBack_22 rfl ?_
    refine v_aload_n C dX1_goBack_23 rfl ?_
    refine v_getr C fl_X1_11 or_hmS_0_0 dX1_goBack_24 ?_
    refine v_aload_n C dX1_goBack_27 rfl ?_
    refine v_getiQ (x := nI 1) C fl_X1_22 oi_hmS_0_1 (rfl) dX1_goBack_28 ?_
    refine v_aald C aq_hmS_1 (by decide) _ ?_ rfl rfl dX1_goBack_31 ?_
    · omega
    refine v_callVv C (c_X2_takeFrom hl (h := h2at 66 10 h) (g := (m, g.2 1)) (by rw [show (m, g.2 1).2 = x from hx]; exact hL)) ym_X2_takeFrom ml_X1_25 emb_hm_b1 rfl rfl rfl rfl rfl dX1_goBack_32 (Nat.le_of_ble_eq_true rfl) (Nat.le_of_ble_eq_true rfl) (Nat.le_of_ble_eq_true rfl) (Nat.le_of_ble_eq_true rfl) (fun _ _ hu => hu.elim) (fun r u hu => ?_)
    subst u
    refine v_aload_n C dX1_goBack_35 rfl ?_
    refine v_dup C dX1_goBack_36 rfl ?_
    refine v_getiQ (x := nI (L.length + 1)) C fl_X1_18 oi_hmS_0_2 (hc) dX1_goBack_37 ?_
    refine v_iconst (v := nI 1) C dX1_goBack_40 (by decide) ?_
    first | refine v_isubN C dX1_goBack_41 (by omega) ?_ | refine v_isub C dX1_goBack_41 ?_
    refine v_puti C fl_X1_18 fw_X1_2 oi_hmS_0_2 ⟨rfl, rfl⟩ dX1_goBack_42 ?_
    refine v_vret C F dX1_goBack_45 (Nat.le_of_ble_eq_true rfl) (Nat.le_of_ble_eq_true rfl) ?_
    exact ⟨hx, HS_pop (g := g) (j := 2) (by omega) h8 hk rfl rfl (funext fun i => by by_cases z : i = 1 <;> simp [fU, z])⟩
set_option maxHeartbeats 4000000 in
theorem c_X1_remember_3 {l : Launch} (hl : l.stackTraces = false) {κ : Kp} {h : Nat → Nat} {g : Hg} {m : Mg} {L : List Mg} (hj : g.1 0 1 = nI 3) (hc : g.1 0 2 = nI L.length) (h8 : L.length ≤ 8) (hk : ∀ i (hi : i < L.length), g.2 ((3 + 7 - i) % 8) = L[i]) (hL : LK m) : Ct SS MM l κ yX1_remember cX1_remember 2 none 1 0 0 [.ref (h 0), .ref (h 66)] (hmS κ h) (g, m) rv (fun _ u => u.2 = m ∧ HS ((m :: L).take 8) u.1) (fun _ _ => False) := by
  refine Ct.of (own := RX1) (by decide) rfl hl (by intro v hv; simp only [List.mem_cons, List.not_mem_nil, or_false] at hv; first | (rcases hv with rfl | rfl | rfl | rfl | rfl | rfl <;> rfl) | (rcases hv with rfl | rfl | rfl | rfl | rfl <;> rfl) | (rcases hv with rfl | rfl | rfl | rfl <;> rfl) | (rcases hv with rfl | rfl | rfl <;> rfl) | (rcases hv with rfl | rfl <;> rfl) | (subst hv; rfl) | exact hv.elim) (Nat.le_of_ble_eq_true rfl) (fun X hxl hxk C F N => ?_)
  subst hxl hxk
  show V X (hmS (xK X) h) 0 [some (.ref (h 0)), some (.ref (h 66))] [] (g, m) 0 0
  refine v_aload_n C dX1_remember_0 rfl ?_
  refine v_getr C fl_X1_11 or_hmS_0_0 dX1_remember_1 ?_
  refine v_aload_n C dX1_remember_4 rfl ?_
  refine v_getiQ (x := nI 3) C fl_X1_22 oi_hmS_0_1 (hj) dX1_remember_5 ?_
  refine v_aald C aq_hmS_1 (by decide) _ ?_ rfl rfl dX1_remember_8 ?_
  · omega
  refine v_aload_n C dX1_remember_9 rfl ?_
  refine v_callVv C (c_X2_takeFrom hl (h := h2at 26 66 h) (g := (g.2 3, m)) hL) ym_X2_takeFrom ml_X1_25 emb_hm_r3 rfl rfl rfl rfl rfl dX1_remember_10 (Nat.le_of_ble_eq_true rfl) (Nat.le_of_ble_eq_true rfl) (Nat.le_of_ble_eq_true rfl) (Nat.le_of_ble_eq_true rfl) (fun _ _ hu => hu.elim) (fun r u hu => ?_)
  subst u
  refine v_aload_n C dX1_remember_13 rfl ?_
  refine v_aload_n C dX1_remember_14 rfl ?_
  refine v_getiQ (x := nI 3) C fl_X1_22 oi_hmS_0_1 (hj) dX1_remember_15 ?_
  refine v_iconst (v := nI 1) C dX1_remember_18 (by decide) ?_
  first | refine v_iaddN C dX1_remember_19 ?_ | refine v_iadd C dX1_remember_19 ?_
  refine v_bipush (v := nI 8) C dX1_remember_20 (by decide) ?_
  first | refine v_icmp_geN C 34 dX1_remember_22 (by decide) (by omega) (by omega) (fun c22 => ?_) (fun c22 => ?_) | refine v_icmp_ge C 34 dX1_remember_22 (by decide) (fun c22 => ?_) (fun c22 => ?_)
  · exfalso
    omega
  · refine v_aload_n C dX1_remember_25 rfl ?_
    refine v_getiQ (x := nI 3) C fl_X1_22 oi_hmS_0_1 (hj) dX1_remember_26 ?_
    refine v_iconst (v := nI 1) C dX1_remember_29 (by decide) ?_
    first | refine v_iaddN C dX1_remember_30 ?_ | refine v_iadd C dX1_remember_30 ?_
    refine v_goto C 35 dX1_remember_31 (by decide) ?_
    refine v_puti C fl_X1_22 fw_X1_1 oi_hmS_0_1 ⟨rfl, rfl⟩ dX1_remember_35 ?_
    refine v_aload_n C dX1_remember_38 rfl ?_
    refine v_aload_n C dX1_remember_39 rfl ?_
    refine v_getiQ (x := nI L.length) C fl_X1_18 oi_hmS_0_2 (hc) dX1_remember_40 ?_
    refine v_iconst (v := nI 1) C dX1_remember_43 (by decide) ?_
    first | refine v_iaddN C dX1_remember_44 ?_ | refine v_iadd C dX1_remember_44 ?_
    refine v_bipush (v := nI 8) C dX1_remember_45 (by decide) ?_
    refine v_mmin (z := nI (min (L.length + 1) 8)) C ml_X1_29 w_minS w_mI w_minC rfl (Nat.le_of_ble_eq_true rfl) dX1_remember_47 (Nat.le_of_ble_eq_true rfl) (Nat.le_of_ble_eq_true rfl) ?_ ?_
    · exact nI_min (by omega) (by omega)
    refine v_puti C fl_X1_18 fw_X1_2 oi_hmS_0_2 ⟨rfl, rfl⟩ dX1_remember_50 ?_
    refine v_vret C F dX1_remember_53 (Nat.le_of_ble_eq_true rfl) (Nat.le_of_ble_eq_true rfl) ?_
    exact ⟨rfl, HS_push (g := g) (j := 3) (by omega) h8 hk rfl rfl rfl⟩
set_option maxHeartbeats 4000000 in
theorem c_X1_goBack_3 {l : Launch} (hl : l.stackTraces = false) {κ : Kp} {h : Nat → Nat} {g : Hg} {m x : Mg} {L : List Mg} (hj : g.1 0 1 = nI 3) (hc : g.1 0 2 = nI (L.length + 1)) (h8 : (x :: L).length ≤ 8) (hk : ∀ i (hi : i < (x :: L).length), g.2 ((3 + 7 - i) % 8) = (x :: L)[i]) (hL : LK x) : Ct SS MM l κ yX1_goBack cX1_goBack 2 none 1 0 0 [.ref (h 0), .ref (h 66)] (hmS κ h) (g, m) rv (fun _ u => u.2 = x ∧ HS L u.1) (fun _ _ => False) := by
  refine Ct.of (own := RX1) (by decide) rfl hl (by intro v hv; simp only [List.mem_cons, List.not_mem_nil, or_false] at hv; first | (rcases hv with rfl | rfl | rfl | rfl | rfl | rfl <;> rfl) | (rcases hv with rfl | rfl | rfl | rfl | rfl <;> rfl) | (rcases hv with rfl | rfl | rfl | rfl <;> rfl) | (rcases hv with rfl | rfl | rfl <;> rfl) | (rcases hv with rfl | rfl <;> rfl) | (subst hv; rfl) | exact hv.elim) (Nat.le_of_ble_eq_true rfl) (fun X hxl hxk C F N => ?_)
  subst hxl hxk
  show V X (hmS (xK X) h) 0 [some (.ref (h 0)), some (.ref (h 66))] [] (g, m) 0 0
  have hx : g.2 2 = x := hk 0 (Nat.zero_lt_succ _)
  have h8b : L.length + 1 ≤ 8 := h8
  refine v_aload_n C dX1_goBack_0 rfl ?_
  refine v_aload_n C dX1_goBack_1 rfl ?_
  refine v_getiQ (x := nI 3) C fl_X1_22 oi_hmS_0_1 (hj) dX1_goBack_2 ?_
  refine v_if_le C 17 dX1_goBack_5 (by decide) (fun c5 => ?_) (fun c5 => ?_)
  · exact absurd c5 (by decide)
  · refine v_aload_n C dX1_goBack_8 rfl ?_
    refine v_getiQ (x := nI 3) C fl_X1_22 oi_hmS_0_1 (hj) dX1_goBack_9 ?_
    refine v_iconst (v := nI 1) C dX1_goBack_12 (by decide) ?_
    first | refine v_isubN C dX1_goBack_13 (by omega) ?_ | refine v_isub C dX1_goBack_13 ?_
    refine v_goto C 19 dX1_goBack_14 (by decide) ?_
    refine v_puti C fl_X1_22 fw_X1_1 oi_hmS_0_1 ⟨rfl, rfl⟩ dX1_goBack_19 ?_
    refine v_aload_n C dX1_goBack_22 rfl ?_
    refine v_aload_n C dX1_goBack_23 rfl ?_
    refine v_getr C fl_X1_11 or_hmS_0_0 dX1_goBack_24 ?_
    refine v_aload_n C dX1_goBack_27 rfl ?_
    refine v_getiQ (x := nI 2) C fl_X1_22 oi_hmS_0_1 (rfl) dX1_goBack_28 ?_
    refine v_aald C aq_hmS_1 (by decide) _ ?_ rfl rfl dX1_goBack_31 ?_
    · omega
    refine v_callVv C (c_X2_takeFrom hl (h := h2at 66 18 h) (g := (m, g.2 2)) (by rw [show (m, g.2 2).2 = x from hx]; exact hL)) ym_X2_takeFrom ml_X1_25 emb_hm_b2 rfl rfl rfl rfl rfl dX1_goBack_32 (Nat.le_of_ble_eq_true rfl) (Nat.le_of_ble_eq_true rfl) (Nat.le_of_ble_eq_true rfl) (Nat.le_of_ble_eq_true rfl) (fun _ _ hu => hu.elim) (fun r u hu => ?_)
    subst u
    refine v_aload_n C dX1_goBack_35 rfl ?_
    refine v_dup C dX1_goBack_36 rfl ?_
    refine v_getiQ (x := nI (L.length + 1)) C fl_X1_18 oi_hmS_0_2 (hc) dX1_goBack_37 ?_
    refine v_iconst (v := nI 1) C dX1_goBack_40 (by decide) ?_
    first | refine v_isubN C dX1_goBack_41 (by omega) ?_ | refine v_isub C dX1_goBack_41 ?_
    refine v_puti C fl_X1_18 fw_X1_2 oi_hmS_0_2 ⟨rfl, rfl⟩ dX1_goBack_42 ?_
    refine v_vret C F dX1_goBack_45 (Nat.le_of_ble_eq_true rfl) (Nat.le_of_ble_eq_true rfl) ?_
    exact ⟨hx, HS_pop (g := g) (j := 3) (by omega) h8 hk rfl rfl (funext fun i => by by_cases z : i = 2 <;> simp [fU, z])⟩
set_option maxHeartbeats 4000000 in
theorem c_X1_remember_4 {l : Launch} (hl : l.stackTraces = false) {κ : Kp} {h : Nat → Nat} {g : Hg} {m : Mg} {L : List Mg} (hj : g.1 0 1 = nI 4) (hc : g.1 0 2 = nI L.length) (h8 : L.length ≤ 8) (hk : ∀ i (hi : i < L.length), g.2 ((4 + 7 - i) % 8) = L[i]) (hL : LK m) : Ct SS MM l κ yX1_remember cX1_remember 2 none 1 0 0 [.ref (h 0), .ref (h 66)] (hmS κ h) (g, m) rv (fun _ u => u.2 = m ∧ HS ((m :: L).take 8) u.1) (fun _ _ => False) := by
  refine Ct.of (own := RX1) (by decide) rfl hl (by intro v hv; simp only [List.mem_cons, List.not_mem_nil, or_false] at hv; first | (rcases hv with rfl | rfl | rfl | rfl | rfl | rfl <;> rfl) | (rcases hv with rfl | rfl | rfl | rfl | rfl <;> rfl) | (rcases hv with rfl | rfl | rfl | rfl <;> rfl) | (rcases hv with rfl | rfl | rfl <;> rfl) | (rcases hv with rfl | rfl <;> rfl) | (subst hv; rfl) | exact hv.elim) (Nat.le_of_ble_eq_true rfl) (fun X hxl hxk C F N => ?_)
  subst hxl hxk
  show V X (hmS (xK X) h) 0 [some (.ref (h 0)), some (.ref (h 66))] [] (g, m) 0 0
  refine v_aload_n C dX1_remember_0 rfl ?_
  refine v_getr C fl_X1_11 or_hmS_0_0 dX1_remember_1 ?_
  refine v_aload_n C dX1_remember_4 rfl ?_
  refine v_getiQ (x := nI 4) C fl_X1_22 oi_hmS_0_1 (hj) dX1_remember_5 ?_
  refine v_aald C aq_hmS_1 (by decide) _ ?_ rfl rfl dX1_remember_8 ?_
  · omega
  refine v_aload_n C dX1_remember_9 rfl ?_
  refine v_callVv C (c_X2_takeFrom hl (h := h2at 34 66 h) (g := (g.2 4, m)) hL) ym_X2_takeFrom ml_X1_25 emb_hm_r4 rfl rfl rfl rfl rfl dX1_remember_10 (Nat.le_of_ble_eq_true rfl) (Nat.le_of_ble_eq_true rfl) (Nat.le_of_ble_eq_true rfl) (Nat.le_of_ble_eq_true rfl) (fun _ _ hu => hu.elim) (fun r u hu => ?_)
  subst u
  refine v_aload_n C dX1_remember_13 rfl ?_
  refine v_aload_n C dX1_remember_14 rfl ?_
  refine v_getiQ (x := nI 4) C fl_X1_22 oi_hmS_0_1 (hj) dX1_remember_15 ?_
  refine v_iconst (v := nI 1) C dX1_remember_18 (by decide) ?_
  first | refine v_iaddN C dX1_remember_19 ?_ | refine v_iadd C dX1_remember_19 ?_
  refine v_bipush (v := nI 8) C dX1_remember_20 (by decide) ?_
  first | refine v_icmp_geN C 34 dX1_remember_22 (by decide) (by omega) (by omega) (fun c22 => ?_) (fun c22 => ?_) | refine v_icmp_ge C 34 dX1_remember_22 (by decide) (fun c22 => ?_) (fun c22 => ?_)
  · exfalso
    omega
  · refine v_aload_n C dX1_remember_25 rfl ?_
    refine v_getiQ (x := nI 4) C fl_X1_22 oi_hmS_0_1 (hj) dX1_remember_26 ?_
    refine v_iconst (v := nI 1) C dX1_remember_29 (by decide) ?_
    first | refine v_iaddN C dX1_remember_30 ?_ | refine v_iadd C dX1_remember_30 ?_
    refine v_goto C 35 dX1_remember_31 (by decide) ?_
    refine v_puti C fl_X1_22 fw_X1_1 oi_hmS_0_1 ⟨rfl, rfl⟩ dX1_remember_35 ?_
    refine v_aload_n C dX1_remember_38 rfl ?_
    refine v_aload_n C dX1_remember_39 rfl ?_
    refine v_getiQ (x := nI L.length) C fl_X1_18 oi_hmS_0_2 (hc) dX1_remember_40 ?_
    refine v_iconst (v := nI 1) C dX1_remember_43 (by decide) ?_
    first | refine v_iaddN C dX1_remember_44 ?_ | refine v_iadd C dX1_remember_44 ?_
    refine v_bipush (v := nI 8) C dX1_remember_45 (by decide) ?_
    refine v_mmin (z := nI (min (L.length + 1) 8)) C ml_X1_29 w_minS w_mI w_minC rfl (Nat.le_of_ble_eq_true rfl) dX1_remember_47 (Nat.le_of_ble_eq_true rfl) (Nat.le_of_ble_eq_true rfl) ?_ ?_
    · exact nI_min (by omega) (by omega)
    refine v_puti C fl_X1_18 fw_X1_2 oi_hmS_0_2 ⟨rfl, rfl⟩ dX1_remember_50 ?_
    refine v_vret C F dX1_remember_53 (Nat.le_of_ble_eq_true rfl) (Nat.le_of_ble_eq_true rfl) ?_
    exact ⟨rfl, HS_push (g := g) (j := 4) (by omega) h8 hk rfl rfl rfl⟩
set_option maxHeartbeats 4000000 in
theorem c_X1_goBack_4 {l : Launch} (hl : l.stackTraces = false) {κ : Kp} {h : Nat → Nat} {g : Hg} {m x : Mg} {L : List Mg} (hj : g.1 0 1 = nI 4) (hc : g.1 0 2 = nI (L.length + 1)) (h8 : (x :: L).length ≤ 8) (hk : ∀ i (hi : i < (x :: L).length), g.2 ((4 + 7 - i) % 8) = (x :: L)[i]) (hL : LK x) : Ct SS MM l κ yX1_goBack cX1_goBack 2 none 1 0 0 [.ref (h 0), .ref (h 66)] (hmS κ h) (g, m) rv (fun _ u => u.2 = x ∧ HS L u.1) (fun _ _ => False) := by
  refine Ct.of (own := RX1) (by decide) rfl hl (by intro v hv; simp only [List.mem_cons, List.not_mem_nil, or_false] at hv; first | (rcases hv with rfl | rfl | rfl | rfl | rfl | rfl <;> rfl) | (rcases hv with rfl | rfl | rfl | rfl | rfl <;> rfl) | (rcases hv with rfl | rfl | rfl | rfl <;> rfl) | (rcases hv with rfl | rfl | rfl <;> rfl) | (rcases hv with rfl | rfl <;> rfl) | (subst hv; rfl) | exact hv.elim) (Nat.le_of_ble_eq_true rfl) (fun X hxl hxk C F N => ?_)
  subst hxl hxk
  show V X (hmS (xK X) h) 0 [some (.ref (h 0)), some (.ref (h 66))] [] (g, m) 0 0
  have hx : g.2 3 = x := hk 0 (Nat.zero_lt_succ _)
  have h8b : L.length + 1 ≤ 8 := h8
  refine v_aload_n C dX1_goBack_0 rfl ?_
  refine v_aload_n C dX1_goBack_1 rfl ?_
  refine v_getiQ (x := nI 4) C fl_X1_22 oi_hmS_0_1 (hj) dX1_goBack_2 ?_
  refine v_if_le C 17 dX1_goBack_5 (by decide) (fun c5 => ?_) (fun c5 => ?_)
  · exact absurd c5 (by decide)
  · refine v_aload_n C dX1_goBack_8 rfl ?_
    refine v_getiQ (x := nI 4) C fl_X1_22 oi_hmS_0_1 (hj) dX1_goBack_9 ?_
    refine v_iconst (v := nI 1) C dX1_goBack_12 (by decide) ?_
    first | refine v_isubN C dX1_goBack_13 (by omega) ?_ | refine v_isub C dX1_goBack_13 ?_
    refine v_goto C 19 dX1_goBack_14 (by decide) ?_
    refine v_puti C fl_X1_22 fw_X1_1 oi_hmS_0_1 ⟨rfl, rfl⟩ dX1_goBack_19 ?_
    refine v_aload_n C dX1_goBack_22 rfl ?_
    refine v_aload_n C dX1_goBack_23 rfl ?_
    refine v_getr C fl_X1_11 or_hmS_0_0 dX1_goBack_24 ?_
    refine v_aload_n C dX1_goBack_27 rfl ?_
    refine v_getiQ (x := nI 3) C fl_X1_22 oi_hmS_0_1 (rfl) dX1_goBack_28 ?_
    refine v_aald C aq_hmS_1 (by decide) _ ?_ rfl rfl dX1_goBack_31 ?_
    · omega
    refine v_callVv C (c_X2_takeFrom hl (h := h2at 66 26 h) (g := (m, g.2 3)) (by rw [show (m, g.2 3).2 = x from hx]; exact hL)) ym_X2_takeFrom ml_X1_25 emb_hm_b3 rfl rfl rfl rfl rfl dX1_goBack_32 (Nat.le_of_ble_eq_true rfl) (Nat.le_of_ble_eq_true rfl) (Nat.le_of_ble_eq_true rfl) (Nat.le_of_ble_eq_true rfl) (fun _ _ hu => hu.elim) (fun r u hu => ?_)
    subst u
    refine v_aload_n C dX1_goBack_35 rfl ?_
    refine v_dup C dX1_goBack_36 rfl ?_
    refine v_getiQ (x := nI (L.length + 1)) C fl_X1_18 oi_hmS_0_2 (hc) dX1_goBack_37 ?_
    refine v_iconst (v := nI 1) C dX1_goBack_40 (by decide) ?_
    first | refine v_isubN C dX1_goBack_41 (by omega) ?_ | refine v_isub C dX1_goBack_41 ?_
    refine v_puti C fl_X1_18 fw_X1_2 oi_hmS_0_2 ⟨rfl, rfl⟩ dX1_goBack_42 ?_
    refine v_vret C F dX1_goBack_45 (Nat.le_of_ble_eq_true rfl) (Nat.le_of_ble_eq_true rfl) ?_
    exact ⟨hx, HS_pop (g := g) (j := 4) (by omega) h8 hk rfl rfl (funext fun i => by by_cases z : i = 3 <;> simp [fU, z])⟩
set_option maxHeartbeats 4000000 in
theorem c_X1_remember_5 {l : Launch} (hl : l.stackTraces = false) {κ : Kp} {h : Nat → Nat} {g : Hg} {m : Mg} {L : List Mg} (hj : g.1 0 1 = nI 5) (hc : g.1 0 2 = nI L.length) (h8 : L.length ≤ 8) (hk : ∀ i (hi : i < L.length), g.2 ((5 + 7 - i) % 8) = L[i]) (hL : LK m) : Ct SS MM l κ yX1_remember cX1_remember 2 none 1 0 0 [.ref (h 0), .ref (h 66)] (hmS κ h) (g, m) rv (fun _ u => u.2 = m ∧ HS ((m :: L).take 8) u.1) (fun _ _ => False) := by
  refine Ct.of (own := RX1) (by decide) rfl hl (by intro v hv; simp only [List.mem_cons, List.not_mem_nil, or_false] at hv; first | (rcases hv with rfl | rfl | rfl | rfl | rfl | rfl <;> rfl) | (rcases hv with rfl | rfl | rfl | rfl | rfl <;> rfl) | (rcases hv with rfl | rfl | rfl | rfl <;> rfl) | (rcases hv with rfl | rfl | rfl <;> rfl) | (rcases hv with rfl | rfl <;> rfl) | (subst hv; rfl) | exact hv.elim) (Nat.le_of_ble_eq_true rfl) (fun X hxl hxk C F N => ?_)
  subst hxl hxk
  show V X (hmS (xK X) h) 0 [some (.ref (h 0)), some (.ref (h 66))] [] (g, m) 0 0
  refine v_aload_n C dX1_remember_0 rfl ?_
  refine v_getr C fl_X1_11 or_hmS_0_0 dX1_remember_1 ?_
  refine v_aload_n C dX1_remember_4 rfl ?_
  refine v_getiQ (x := nI 5) C fl_X1_22 oi_hmS_0_1 (hj) dX1_remember_5 ?_
  refine v_aald C aq_hmS_1 (by decide) _ ?_ rfl rfl dX1_remember_8 ?_
  · omega
  refine v_aload_n C dX1_remember_9 rfl ?_
  refine v_callVv C (c_X2_takeFrom hl (h := h2at 42 66 h) (g := (g.2 5, m)) hL) ym_X2_takeFrom ml_X1_25 emb_hm_r5 rfl rfl rfl rfl rfl dX1_remember_10 (Nat.le_of_ble_eq_true rfl) (Nat.le_of_ble_eq_true rfl) (Nat.le_of_ble_eq_true rfl) (Nat.le_of_ble_eq_true rfl) (fun _ _ hu => hu.elim) (fun r u hu => ?_)
  subst u
  refine v_aload_n C dX1_remember_13 rfl ?_
  refine v_aload_n C dX1_remember_14 rfl ?_
  refine v_getiQ (x := nI 5) C fl_X1_22 oi_hmS_0_1 (hj) dX1_remember_15 ?_
  refine v_iconst (v := nI 1) C dX1_remember_18 (by decide) ?_
  first | refine v_iaddN C dX1_remember_19 ?_ | refine v_iadd C dX1_remember_19 ?_
  refine v_bipush (v := nI 8) C dX1_remember_20 (by decide) ?_
  first | refine v_icmp_geN C 34 dX1_remember_22 (by decide) (by omega) (by omega) (fun c22 => ?_) (fun c22 => ?_) | refine v_icmp_ge C 34 dX1_remember_22 (by decide) (fun c22 => ?_) (fun c22 => ?_)
  · exfalso
    omega
  · refine v_aload_n C dX1_remember_25 rfl ?_
    refine v_getiQ (x := nI 5) C fl_X1_22 oi_hmS_0_1 (hj) dX1_remember_26 ?_
    refine v_iconst (v := nI 1) C dX1_remember_29 (by decide) ?_
    first | refine v_iaddN C dX1_remember_30 ?_ | refine v_iadd C dX1_remember_30 ?_
    refine v_goto C 35 dX1_remember_31 (by decide) ?_
    refine v_puti C fl_X1_22 fw_X1_1 oi_hmS_0_1 ⟨rfl, rfl⟩ dX1_remember_35 ?_
    refine v_aload_n C dX1_remember_38 rfl ?_
    refine v_aload_n C dX1_remember_39 rfl ?_
    refine v_getiQ (x := nI L.length) C fl_X1_18 oi_hmS_0_2 (hc) dX1_remember_40 ?_
    refine v_iconst (v := nI 1) C dX1_remember_43 (by decide) ?_
    first | refine v_iaddN C dX1_remember_44 ?_ | refine v_iadd C dX1_remember_44 ?_
    refine v_bipush (v := nI 8) C dX1_remember_45 (by decide) ?_
    refine v_mmin (z := nI (min (L.length + 1) 8)) C ml_X1_29 w_minS w_mI w_minC rfl (Nat.le_of_ble_eq_true rfl) dX1_remember_47 (Nat.le_of_ble_eq_true rfl) (Nat.le_of_ble_eq_true rfl) ?_ ?_
    · exact nI_min (by omega) (by omega)
    refine v_puti C fl_X1_18 fw_X1_2 oi_hmS_0_2 ⟨rfl, rfl⟩ dX1_remember_50 ?_
    refine v_vret C F dX1_remember_53 (Nat.le_of_ble_eq_true rfl) (Nat.le_of_ble_eq_true rfl) ?_
    exact ⟨rfl, HS_push (g := g) (j := 5) (by omega) h8 hk rfl rfl rfl⟩
set_option maxHeartbeats 4000000 in
theorem c_X1_goBack_5 {l : Launch} (hl : l.stackTraces = false) {κ : Kp} {h : Nat → Nat} {g : Hg} {m x : Mg} {L : List Mg} (hj : g.1 0 1 = nI 5) (hc : g.1 0 2 = nI (L.length + 1)) (h8 : (x :: L).length ≤ 8) (hk : ∀ i (hi : i < (x :: L).length), g.2 ((5 + 7 - i) % 8) = (x :: L)[i]) (hL : LK x) : Ct SS MM l κ yX1_goBack cX1_goBack 2 none 1 0 0 [.ref (h 0), .ref (h 66)] (hmS κ h) (g, m) rv (fun _ u => u.2 = x ∧ HS L u.1) (fun _ _ => False) := by
  refine Ct.of (own := RX1) (by decide) rfl hl (by intro v hv; simp only [List.mem_cons, List.not_mem_nil, or_false] at hv; first | (rcases hv with rfl | rfl | rfl | rfl | rfl | rfl <;> rfl) | (rcases hv with rfl | rfl | rfl | rfl | rfl <;> rfl) | (rcases hv with rfl | rfl | rfl | rfl <;> rfl) | (rcases hv with rfl | rfl | rfl <;> rfl) | (rcases hv with rfl | rfl <;> rfl) | (subst hv; rfl) | exact hv.elim) (Nat.le_of_ble_eq_true rfl) (fun X hxl hxk C F N => ?_)
  subst hxl hxk
  show V X (hmS (xK X) h) 0 [some (.ref (h 0)), some (.ref (h 66))] [] (g, m) 0 0
  have hx : g.2 4 = x := hk 0 (Nat.zero_lt_succ _)
  have h8b : L.length + 1 ≤ 8 := h8
  refine v_aload_n C dX1_goBack_0 rfl ?_
  refine v_aload_n C dX1_goBack_1 rfl ?_
  refine v_getiQ (x := nI 5) C fl_X1_22 oi_hmS_0_1 (hj) dX1_goBack_2 ?_
  refine v_if_le C 17 dX1_goBack_5 (by decide) (fun c5 => ?_) (fun c5 => ?_)
  · exact absurd c5 (by decide)
  · refine v_aload_n C dX1_goBack_8 rfl ?_
    refine v_getiQ (x := nI 5) C fl_X1_22 oi_hmS_0_1 (hj) dX1_goBack_9 ?_
    refine v_iconst (v := nI 1) C dX1_goBack_12 (by decide) ?_
    first | refine v_isubN C dX1_goBack_13 (by omega) ?_ | refine v_isub C dX1_goBack_13 ?_
    refine v_goto C 19 dX1_goBack_14 (by decide) ?_
    refine v_puti C fl_X1_22 fw_X1_1 oi_hmS_0_1 ⟨rfl, rfl⟩ dX1_goBack_19 ?_
    refine v_aload_n C dX1_goBack_22 rfl ?_
    refine v_aload_n C dX1_goBack_23 rfl ?_
    refine v_getr C fl_X1_11 or_hmS_0_0 dX1_goBack_24 ?_
    refine v_aload_n C dX1_goBack_27 rfl ?_
    refine v_getiQ (x := nI 4) C fl_X1_22 oi_hmS_0_1 (rfl) dX1_goBack_28 ?_
    refine v_aald C aq_hmS_1 (by decide) _ ?_ rfl rfl dX1_goBack_31 ?_
    · omega
    refine v_callVv C (c_X2_takeFrom hl (h := h2at 66 34 h) (g := (m, g.2 4)) (by rw [show (m, g.2 4).2 = x from hx]; exact hL)) ym_X2_takeFrom ml_X1_25 emb_hm_b4 rfl rfl rfl rfl rfl dX1_goBack_32 (Nat.le_of_ble_eq_true rfl) (Nat.le_of_ble_eq_true rfl) (Nat.le_of_ble_eq_true rfl) (Nat.le_of_ble_eq_true rfl) (fun _ _ hu => hu.elim) (fun r u hu => ?_)
    subst u
    refine v_aload_n C dX1_goBack_35 rfl ?_
    refine v_dup C dX1_goBack_36 rfl ?_
    refine v_getiQ (x := nI (L.length + 1)) C fl_X1_18 oi_hmS_0_2 (hc) dX1_goBack_37 ?_
    refine v_iconst (v := nI 1) C dX1_goBack_40 (by decide) ?_
    first | refine v_isubN C dX1_goBack_41 (by omega) ?_ | refine v_isub C dX1_goBack_41 ?_
    refine v_puti C fl_X1_18 fw_X1_2 oi_hmS_0_2 ⟨rfl, rfl⟩ dX1_goBack_42 ?_
    refine v_vret C F dX1_goBack_45 (Nat.le_of_ble_eq_true rfl) (Nat.le_of_ble_eq_true rfl) ?_
    exact ⟨hx, HS_pop (g := g) (j := 5) (by omega) h8 hk rfl rfl (funext fun i => by by_cases z : i = 4 <;> simp [fU, z])⟩
set_option maxHeartbeats 4000000 in
theorem c_X1_remember_6 {l : Launch} (hl : l.stackTraces = false) {κ : Kp} {h : Nat → Nat} {g : Hg} {m : Mg} {L : List Mg} (hj : g.1 0 1 = nI 6) (hc : g.1 0 2 = nI L.length) (h8 : L.length ≤ 8) (hk : ∀ i (hi : i < L.length), g.2 ((6 + 7 - i) % 8) = L[i]) (hL : LK m) : Ct SS MM l κ yX1_remember cX1_remember 2 none 1 0 0 [.ref (h 0), .ref (h 66)] (hmS κ h) (g, m) rv (fun _ u => u.2 = m ∧ HS ((m :: L).take 8) u.1) (fun _ _ => False) := by
  refine Ct.of (own := RX1) (by decide) rfl hl (by intro v hv; simp only [List.mem_cons, List.not_mem_nil, or_false] at hv; first | (rcases hv with rfl | rfl | rfl | rfl | rfl | rfl <;> rfl) | (rcases hv with rfl | rfl | rfl | rfl | rfl <;> rfl) | (rcases hv with rfl | rfl | rfl | rfl <;> rfl) | (rcases hv with rfl | rfl | rfl <;> rfl) | (rcases hv with rfl | rfl <;> rfl) | (subst hv; rfl) | exact hv.elim) (Nat.le_of_ble_eq_true rfl) (fun X hxl hxk C F N => ?_)
  subst hxl hxk
  show V X (hmS (xK X) h) 0 [some (.ref (h 0)), some (.ref (h 66))] [] (g, m) 0 0
  refine v_aload_n C dX1_remember_0 rfl ?_
  refine v_getr C fl_X1_11 or_hmS_0_0 dX1_remember_1 ?_
  refine v_aload_n C dX1_remember_4 rfl ?_
  refine v_getiQ (x := nI 6) C fl_X1_22 oi_hmS_0_1 (hj) dX1_remember_5 ?_
  refine v_aald C aq_hmS_1 (by decide) _ ?_ rfl rfl dX1_remember_8 ?_
  · omega
  refine v_aload_n C dX1_remember_9 rfl ?_
  refine v_callVv C (c_X2_takeFrom hl (h := h2at 50 66 h) (g := (g.2 6, m)) hL) ym_X2_takeFrom ml_X1_25 emb_hm_r6 rfl rfl rfl rfl rfl dX1_remember_10 (Nat.le_of_ble_eq_true rfl) (Nat.le_of_ble_eq_true rfl) (Nat.le_of_ble_eq_true rfl) (Nat.le_of_ble_eq_true rfl) (fun _ _ hu => hu.elim) (fun r u hu => ?_)
  subst u
  refine v_aload_n C dX1_remember_13 rfl ?_
  refine v_aload_n C dX1_remember_14 rfl ?_
  refine v_getiQ (x := nI 6) C fl_X1_22 oi_hmS_0_1 (hj) dX1_remember_15 ?_
  refine v_iconst (v := nI 1) C dX1_remember_18 (by decide) ?_
  first | refine v_iaddN C dX1_remember_19 ?_ | refine v_iadd C dX1_remember_19 ?_
  refine v_bipush (v := nI 8) C dX1_remember_20 (by decide) ?_
  first | refine v_icmp_geN C 34 dX1_remember_22 (by decide) (by omega) (by omega) (fun c22 => ?_) (fun c22 => ?_) | refine v_icmp_ge C 34 dX1_remember_22 (by decide) (fun c22 => ?_) (fun c22 => ?_)
  · exfalso
    omega
  · refine v_aload_n C dX1_remember_25 rfl ?_
    refine v_getiQ (x := nI 6) C fl_X1_22 oi_hmS_0_1 (hj) dX1_remember_26 ?_
    refine v_iconst (v := nI 1) C dX1_remember_29 (by decide) ?_
    first | refine v_iaddN C dX1_remember_30 ?_ | refine v_iadd C dX1_remember_30 ?_
    refine v_goto C 35 dX1_remember_31 (by decide) ?_
    refine v_puti C fl_X1_22 fw_X1_1 oi_hmS_0_1 ⟨rfl, rfl⟩ dX1_remember_35 ?_
    refine v_aload_n C dX1_remember_38 rfl ?_
    refine v_aload_n C dX1_remember_39 rfl ?_
    refine v_getiQ (x := nI L.length) C fl_X1_18 oi_hmS_0_2 (hc) dX1_remember_40 ?_
    refine v_iconst (v := nI 1) C dX1_remember_43 (by decide) ?_
    first | refine v_iaddN C dX1_remember_44 ?_ | refine v_iadd C dX1_remember_44 ?_
    refine v_bipush (v := nI 8) C dX1_remember_45 (by decide) ?_
    refine v_mmin (z := nI (min (L.length + 1) 8)) C ml_X1_29 w_minS w_mI w_minC rfl (Nat.le_of_ble_eq_true rfl) dX1_remember_47 (Nat.le_of_ble_eq_true rfl) (Nat.le_of_ble_eq_true rfl) ?_ ?_
    · exact nI_min (by omega) (by omega)
    refine v_puti C fl_X1_18 fw_X1_2 oi_hmS_0_2 ⟨rfl, rfl⟩ dX1_remember_50 ?_
    refine v_vret C F dX1_remember_53 (Nat.le_of_ble_eq_true rfl) (Nat.le_of_ble_eq_true rfl) ?_
    exact ⟨rfl, HS_push (g := g) (j := 6) (by omega) h8 hk rfl rfl rfl⟩
set_option maxHeartbeats 4000000 in
theorem c_X1_goBack_6 {l : Launch} (hl : l.stackTraces = false) {κ : Kp} {h : Nat → Nat} {g : Hg} {m x : Mg} {L : List Mg} (hj : g.1 0 1 = nI 6) (hc : g.1 0 2 = nI (L.length + 1)) (h8 : (x :: L).length ≤ 8) (hk : ∀ i (hi : i < (x :: L).length), g.2 ((6 + 7 - i) % 8) = (x :: L)[i]) (hL : LK x) : Ct SS MM l κ yX1_goBack cX1_goBack 2 none 1 0 0 [.ref (h 0), .ref (h 66)] (hmS κ h) (g, m) rv (fun _ u => u.2 = x ∧ HS L u.1) (fun _ _ => False) := by
  refine Ct.of (own := RX1) (by decide) rfl hl (by intro v hv; simp only [List.mem_cons, List.not_mem_nil, or_false] at hv; first | (rcases hv with rfl | rfl | rfl | rfl | rfl | rfl <;> rfl) | (rcases hv with rfl | rfl | rfl | rfl | rfl <;> rfl) | (rcases hv with rfl | rfl | rfl | rfl <;> rfl) | (rcases hv with rfl | rfl | rfl <;> rfl) | (rcases hv with rfl | rfl <;> rfl) | (subst hv; rfl) | exact hv.elim) (Nat.le_of_ble_eq_true rfl) (fun X hxl hxk C F N => ?_)
  subst hxl hxk
  show V X (hmS (xK X) h) 0 [some (.ref (h 0)), some (.ref (h 66))] [] (g, m) 0 0
  have hx : g.2 5 = x := hk 0 (Nat.zero_lt_succ _)
  have h8b : L.length + 1 ≤ 8 := h8
  refine v_aload_n C dX1_goBack_0 rfl ?_
  refine v_aload_n C dX1_goBack_1 rfl ?_
  refine v_getiQ (x := nI 6) C fl_X1_22 oi_hmS_0_1 (hj) dX1_goBack_2 ?_
  refine v_if_le C 17 dX1_goBack_5 (by decide) (fun c5 => ?_) (fun c5 => ?_)
  · exact absurd c5 (by decide)
  · refine v_aload_n C dX1_goBack_8 rfl ?_
    refine v_getiQ (x := nI 6) C fl_X1_22 oi_hmS_0_1 (hj) dX1_goBack_9 ?_
    refine v_iconst (v := nI 1) C dX1_goBack_12 (by decide) ?_
    first | refine v_isubN C dX1_goBack_13 (by omega) ?_ | refine v_isub C dX1_goBack_13 ?_
    refine v_goto C 19 dX1_goBack_14 (by decide) ?_
    refine v_puti C fl_X1_22 fw_X1_1 oi_hmS_0_1 ⟨rfl, rfl⟩ dX1_goBack_19 ?_
    refine v_aload_n C dX1_goBack_22 rfl ?_
    refine v_aload_n C dX1_goBack_23 rfl ?_
    refine v_getr C fl_X1_11 or_hmS_0_0 dX1_goBack_24 ?_
    refine v_aload_n C dX1_goBack_27 rfl ?_
    refine v_getiQ (x := nI 5) C fl_X1_22 oi_hmS_0_1 (rfl) dX1_goBack_28 ?_
    refine v_aald C aq_hmS_1 (by decide) _ ?_ rfl rfl dX1_goBack_31 ?_
    · omega
    refine v_callVv C (c_X2_takeFrom hl (h := h2at 66 42 h) (g := (m, g.2 5)) (by rw [show (m, g.2 5).2 = x from hx]; exact hL)) ym_X2_takeFrom ml_X1_25 emb_hm_b5 rfl rfl rfl rfl rfl dX1_goBack_32 (Nat.le_of_ble_eq_true rfl) (Nat.le_of_ble_eq_true rfl) (Nat.le_of_ble_eq_true rfl) (Nat.le_of_ble_eq_true rfl) (fun _ _ hu => hu.elim) (fun r u hu => ?_)
    subst u
    refine v_aload_n C dX1_goBack_35 rfl ?_
    refine v_dup C dX1_goBack_36 rfl ?_
    refine v_getiQ (x := nI (L.length + 1)) C fl_X1_18 oi_hmS_0_2 (hc) dX1_goBack_37 ?_
    refine v_iconst (v := nI 1) C dX1_goBack_40 (by decide) ?_
    first | refine v_isubN C dX1_goBack_41 (by omega) ?_ | refine v_isub C dX1_goBack_41 ?_
    refine v_puti C fl_X1_18 fw_X1_2 oi_hmS_0_2 ⟨rfl, rfl⟩ dX1_goBack_42 ?_
    refine v_vret C F dX1_goBack_45 (Nat.le_of_ble_eq_true rfl) (Nat.le_of_ble_eq_true rfl) ?_
    exact ⟨hx, HS_pop (g := g) (j := 6) (by omega) h8 hk rfl rfl (funext fun i => by by_cases z : i = 5 <;> simp [fU, z])⟩
set_option maxHeartbeats 4000000 in
theorem c_X1_remember_7 {l : Launch} (hl : l.stackTraces = false) {κ : Kp} {h : Nat → Nat} {g : Hg} {m : Mg} {L : List Mg} (hj : g.1 0 1 = nI 7) (hc : g.1 0 2 = nI L.length) (h8 : L.length ≤ 8) (hk : ∀ i (hi : i < L.length), g.2 ((7 + 7 - i) % 8) = L[i]) (hL : LK m) : Ct SS MM l κ yX1_remember cX1_remember 2 none 1 0 0 [.ref (h 0), .ref (h 66)] (hmS κ h) (g, m) rv (fun _ u => u.2 = m ∧ HS ((m :: L).take 8) u.1) (fun _ _ => False) := by
  refine Ct.of (own := RX1) (by decide) rfl hl (by intro v hv; simp only [List.mem_cons, List.not_mem_nil, or_false] at hv; first | (rcases hv with rfl | rfl | rfl | rfl | rfl | rfl <;> rfl) | (rcases hv with rfl | rfl | rfl | rfl | rfl <;> rfl) | (rcases hv with rfl | rfl | rfl | rfl <;> rfl) | (rcases hv with rfl | rfl | rfl <;> rfl) | (rcases hv with rfl | rfl <;> rfl) | (subst hv; rfl) | exact hv.elim) (Nat.le_of_ble_eq_true rfl) (fun X hxl hxk C F N => ?_)
  subst hxl hxk
  show V X (hmS (xK X) h) 0 [some (.ref (h 0)), some (.ref (h 66))] [] (g, m) 0 0
  refine v_aload_n C dX1_remember_0 rfl ?_
  refine v_getr C fl_X1_11 or_hmS_0_0 dX1_remember_1 ?_
  refine v_aload_n C dX1_remember_4 rfl ?_
  refine v_getiQ (x := nI 7) C fl_X1_22 oi_hmS_0_1 (hj) dX1_remember_5 ?_
  refine v_aald C aq_hmS_1 (by decide) _ ?_ rfl rfl dX1_remember_8 ?_
  · omega
  refine v_aload_n C dX1_remember_9 rfl ?_
  refine v_callVv C (c_X2_takeFrom hl (h := h2at 58 66 h) (g := (g.2 7, m)) hL) ym_X2_takeFrom ml_X1_25 emb_hm_r7 rfl rfl rfl rfl rfl dX1_remember_10 (Nat.le_of_ble_eq_true rfl) (Nat.le_of_ble_eq_true rfl) (Nat.le_of_ble_eq_true rfl) (Nat.le_of_ble_eq_true rfl) (fun _ _ hu => hu.elim) (fun r u hu => ?_)
  subst u
  refine v_aload_n C dX1_remember_13 rfl ?_
  refine v_aload_n C dX1_remember_14 rfl ?_
  refine v_getiQ (x := nI 7) C fl_X1_22 oi_hmS_0_1 (hj) dX1_remember_15 ?_
  refine v_iconst (v := nI 1) C dX1_remember_18 (by decide) ?_
  first | refine v_iaddN C dX1_remember_19 ?_ | refine v_iadd C dX1_remember_19 ?_
  refine v_bipush (v := nI 8) C dX1_remember_20 (by decide) ?_
  first | refine v_icmp_geN C 34 dX1_remember_22 (by decide) (by omega) (by omega) (fun c22 => ?_) (fun c22 => ?_) | refine v_icmp_ge C 34 dX1_remember_22 (by decide) (fun c22 => ?_) (fun c22 => ?_)
  · refine v_iconst (v := nI 0) C dX1_remember_34 (by decide) ?_
    refine v_puti C fl_X1_22 fw_X1_1 oi_hmS_0_1 ⟨rfl, rfl⟩ dX1_remember_35 ?_
    refine v_aload_n C dX1_remember_38 rfl ?_
    refine v_aload_n C dX1_remember_39 rfl ?_
    refine v_getiQ (x := nI L.length) C fl_X1_18 oi_hmS_0_2 (hc) dX1_remember_40 ?_
    refine v_iconst (v := nI 1) C dX1_remember_43 (by decide) ?_
    first | refine v_iaddN C dX1_remember_44 ?_ | refine v_iadd C dX1_remember_44 ?_
    refine v_bipush (v := nI 8) C dX1_remember_45 (by decide) ?_
    refine v_mmin (z := nI (min (L.length + 1) 8)) C ml_X1_29 w_minS w_mI w_minC rfl (Nat.le_of_ble_eq_true rfl) dX1_remember_47 (Nat.le_of_ble_eq_true rfl) (Nat.le_of_ble_eq_true rfl) ?_ ?_
    · exact nI_min (by omega) (by omega)
    refine v_puti C fl_X1_18 fw_X1_2 oi_hmS_0_2 ⟨rfl, rfl⟩ dX1_remember_50 ?_
    refine v_vret C F dX1_remember_53 (Nat.le_of_ble_eq_true rfl) (Nat.le_of_ble_eq_true rfl) ?_
    exact ⟨rfl, HS_push (g := g) (j := 7) (by omega) h8 hk rfl rfl rfl⟩
  · exfalso
    omega
set_option maxHeartbeats 4000000 in
theorem c_X1_goBack_7 {l : Launch} (hl : l.stackTraces = false) {κ : Kp} {h : Nat → Nat} {g : Hg} {m x : Mg} {L : List Mg} (hj : g.1 0 1 = nI 7) (hc : g.1 0 2 = nI (L.length + 1)) (h8 : (x :: L).length ≤ 8) (hk : ∀ i (hi : i < (x :: L).length), g.2 ((7 + 7 - i) % 8) = (x :: L)[i]) (hL : LK x) : Ct SS MM l κ yX1_goBack cX1_goBack 2 none 1 0 0 [.ref (h 0), .ref (h 66)] (hmS κ h) (g, m) rv (fun _ u => u.2 = x ∧ HS L u.1) (fun _ _ => False) := by
  refine Ct.of (own := RX1) (by decide) rfl hl (by intro v hv; simp only [List.mem_cons, List.not_mem_nil, or_false] at hv; first | (rcases hv with rfl | rfl | rfl | rfl | rfl | rfl <;> rfl) | (rcases hv with rfl | rfl | rfl | rfl | rfl <;> rfl) | (rcases hv with rfl | rfl | rfl | rfl <;> rfl) | (rcases hv with rfl | rfl | rfl <;> rfl) | (rcases hv with rfl | rfl <;> rfl) | (subst hv; rfl) | exact hv.elim) (Nat.le_of_ble_eq_true rfl) (fun X hxl hxk C F N => ?_)
  subst hxl hxk
  show V X (hmS (xK X) h) 0 [some (.ref (h 0)), some (.ref (h 66))] [] (g, m) 0 0
  have hx : g.2 6 = x := hk 0 (Nat.zero_lt_succ _)
  have h8b : L.length + 1 ≤ 8 := h8
  refine v_aload_n C dX1_goBack_0 rfl ?_
  refine v_aload_n C dX1_goBack_1 rfl ?_
  refine v_getiQ (x := nI 7) C fl_X1_22 oi_hmS_0_1 (hj) dX1_goBack_2 ?_
  refine v_if_le C 17 dX1_goBack_5 (by decide) (fun c5 => ?_) (fun c5 => ?_)
  · exact absurd c5 (by decide)
  · refine v_aload_n C dX1_goBack_8 rfl ?_
    refine v_getiQ (x := nI 7) C fl_X1_22 oi_hmS_0_1 (hj) dX1_goBack_9 ?_
    refine v_iconst (v := nI 1) C dX1_goBack_12 (by decide) ?_
    first | refine v_isubN C dX1_goBack_13 (by omega) ?_ | refine v_isub C dX1_goBack_13 ?_
    refine v_goto C 19 dX1_goBack_14 (by decide) ?_
    refine v_puti C fl_X1_22 fw_X1_1 oi_hmS_0_1 ⟨rfl, rfl⟩ dX1_goBack_19 ?_
    refine v_aload_n C dX1_goBack_22 rfl ?_
    refine v_aload_n C dX1_goBack_23 rfl ?_
    refine v_getr C fl_X1_11 or_hmS_0_0 dX1_goBack_24 ?_
    refine v_aload_n C dX1_goBack_27 rfl ?_
    refine v_getiQ (x := nI 6) C fl_X1_22 oi_hmS_0_1 (rfl) dX1_goBack_28 ?_
    refine v_aald C aq_hmS_1 (by decide) _ ?_ rfl rfl dX1_goBack_31 ?_
    · omega
    refine v_callVv C (c_X2_takeFrom hl (h := h2at 66 50 h) (g := (m, g.2 6)) (by rw [show (m, g.2 6).2 = x from hx]; exact hL)) ym_X2_takeFrom ml_X1_25 emb_hm_b6 rfl rfl rfl rfl rfl dX1_goBack_32 (Nat.le_of_ble_eq_true rfl) (Nat.le_of_ble_eq_true rfl) (Nat.le_of_ble_eq_true rfl) (Nat.le_of_ble_eq_true rfl) (fun _ _ hu => hu.elim) (fun r u hu => ?_)
    subst u
    refine v_aload_n C dX1_goBack_35 rfl ?_
    refine v_dup C dX1_goBack_36 rfl ?_
    refine v_getiQ (x := nI (L.length + 1)) C fl_X1_18 oi_hmS_0_2 (hc) dX1_goBack_37 ?_
    refine v_iconst (v := nI 1) C dX1_goBack_40 (by decide) ?_
    first | refine v_isubN C dX1_goBack_41 (by omega) ?_ | refine v_isub C dX1_goBack_41 ?_
    refine v_puti C fl_X1_18 fw_X1_2 oi_hmS_0_2 ⟨rfl, rfl⟩ dX1_goBack_42 ?_
    refine v_vret C F dX1_goBack_45 (Nat.le_of_ble_eq_true rfl) (Nat.le_of_ble_eq_true rfl) ?_
    exact ⟨hx, HS_pop (g := g) (j := 7) (by omega) h8 hk rfl rfl (funext fun i => by by_cases z : i = 6 <;> simp [fU, z])⟩
theorem c_X1_remember {l : Launch} (hl : l.stackTraces = false) {κ : Kp} {h : Nat → Nat} {g : Hg} {m : Mg} {L : List Mg} (hH : HS L g) (hL : LK m) : Ct SS MM l κ yX1_remember cX1_remember 2 none 1 0 0 [.ref (h 0), .ref (h 66)] (hmS κ h) (g, m) rv (fun _ u => u.2 = m ∧ HS ((m :: L).take 8) u.1) (fun _ _ => False) := by
  obtain ⟨j, hj, hj8, hc, h8, hk⟩ := hH
  have hcs : j = 0 ∨ j = 1 ∨ j = 2 ∨ j = 3 ∨ j = 4 ∨ j = 5 ∨ j = 6 ∨ j = 7 := by omega
  rcases hcs with rfl | rfl | rfl | rfl | rfl | rfl | rfl | rfl
  · exact c_X1_remember_0 hl hj hc h8 hk hL
  · exact c_X1_remember_1 hl hj hc h8 hk hL
  · exact c_X1_remember_2 hl hj hc h8 hk hL
  · exact c_X1_remember_3 hl hj hc h8 hk hL
  · exact c_X1_remember_4 hl hj hc h8 hk hL
  · exact c_X1_remember_5 hl hj hc h8 hk hL
  · exact c_X1_remember_6 hl hj hc h8 hk hL
  · exact c_X1_remember_7 hl hj hc h8 hk hL
theorem c_X1_goBack {l : Launch} (hl : l.stackTraces = false) {κ : Kp} {h : Nat → Nat} {g : Hg} {m : Mg} {L : List Mg} {x : Mg} (hH : HS (x :: L) g) (hL : LK x) : Ct SS MM l κ yX1_goBack cX1_goBack 2 none 1 0 0 [.ref (h 0), .ref (h 66)] (hmS κ h) (g, m) rv (fun _ u => u.2 = x ∧ HS L u.1) (fun _ _ => False) := by
  obtain ⟨j, hj, hj8, hc, h8, hk⟩ := hH
  have hcs : j = 0 ∨ j = 1 ∨ j = 2 ∨ j = 3 ∨ j = 4 ∨ j = 5 ∨ j = 6 ∨ j = 7 := by omega
  rcases hcs with rfl | rfl | rfl | rfl | rfl | rfl | rfl | rfl
  · exact c_X1_goBack_0 hl hj hc h8 hk hL
  · exact c_X1_goBack_1 hl hj hc h8 hk hL
  · exact c_X1_goBack_2 hl hj hc h8 hk hL
  · exact c_X1_goBack_3 hl hj hc h8 hk hL
  · exact c_X1_goBack_4 hl hj hc h8 hk hL
  · exact c_X1_goBack_5 hl hj hc h8 hk hL
  · exact c_X1_goBack_6 hl hj hc h8 hk hL
  · exact c_X1_goBack_7 hl hj hc h8 hk hL
