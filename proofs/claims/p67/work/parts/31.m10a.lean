theorem RXP_mk {b : Nat → Int32} {len : Nat} {st : St} {m : Mg} {k : Cnt} {fl : Int32} {u : Rg} (h1 : RS b len st u.1) (h2 : KC k u.1) (h3 : u.1 0 2 = fl) (h4 : u.2.2 = m) : RXP b len (st, m, k) fl u := ⟨h1, h2, h3, h4⟩
theorem RXP_st {b : Nat → Int32} {len : Nat} {x : RX} {fl : Int32} {r s : G} {m : Mg} (h : RXP b len x fl (r, s, m)) : RXP b len x fl (r, s, x.2.1) := ⟨h.1, h.2.1, h.2.2.1, rfl⟩
theorem RXP_put {b : Nat → Int32} {len n p1 p2 : Nat} {st : St} {m : Mg} {k : Cnt} {fl : Int32} {u : Rg} {x : St × Mg} (e1 : EqH p1 (put1 b len n st k).2) (e2 : EqH p2 (put2 b len n st k).2) (ex : putF b len n p1 699 1 (advS b len (putS n p1 p2 (put2 b len n st k).1 m).1) (putS n p1 p2 (put2 b len n st k).1 m).2 = x) (h1 : RS b len x.1 u.1) (h2 : KC (k.1 + 1, k.2) u.1) (h3 : u.1 0 2 = fl) (h4 : u.2.2 = x.2) : RXP b len (lnPut b len n (st, m, k)) fl u := by
  have e1 : p1 = _ := e1
  have e2 : p2 = _ := e2
  subst e1 e2 ex
  unfold RXP lnPut
  dsimp only
  exact ⟨h1, h2, h3, h4⟩
theorem whenS_1 {p : Bool} {c : Nat} {st : St} : (whenS p c st).1 = st.1 := by
  unfold whenS
  split
  · exact failS_t
  · rfl
theorem putS_07 {n p v : Nat} {st : St} {m : Mg} : (putS n p v st m).2 0 7 = m 0 7 := by
  show (if ok (whenS (!decide (p < n)) 2 st) then byteM m p (nI v) else m) 0 7 = m 0 7
  split <;> rfl
theorem putF_t {b : Nat → Int32} {len n p f k : Nat} {st : St} {m : Mg} (h : (ok st && decide (st.1.1 = 2)) = true) : putF b len n p (f + 1) k st m = putF b len n p f (k + 1) (advS b len (putS n (p + k) st.1.2.2.2 (whenS (decide (255 < st.1.2.2.2)) 2 st) m).1) (putS n (p + k) st.1.2.2.2 (whenS (decide (255 < st.1.2.2.2)) 2 st) m).2 := if_pos h
theorem putF_e {b : Nat → Int32} {len n p f k : Nat} {st : St} {m : Mg} (h : (ok st && decide (st.1.1 = 2)) = false) : putF b len n p (f + 1) k st m = (st, m) := if_neg (by rw [h]; exact Bool.false_ne_true)
theorem linesF_t {b : Nat → Int32} {len n f : Nat} {x : RX} (h : (ok x.1 && !decide (x.1.1.1 = 0)) = true) : linesF b len n (f + 1) x = linesF b len n f (lnStep b len n x) := if_pos h
theorem linesF_e {b : Nat → Int32} {len n f : Nat} {x : RX} (h : (ok x.1 && !decide (x.1.1.1 = 0)) = false) : linesF b len n (f + 1) x = x := if_neg (by rw [h]; exact Bool.false_ne_true)
def shI (t : Nat) : Int32 := Int32.ofInt (24 - 8 * (t : Int))
def byt (w s : Int32) : Int32 := (w.toUInt32 >>> (s.toUInt32 &&& Int32.toUInt32 31)).toInt32 &&& nI 255
def tk1 (r : G) (f : Nat) (w s : Int32) : G := sG (sG r 13 (upd (r 13) f (byt w s))) 0 (upd (r 0) 2 (nI (f + 1)))
def tkN (r : G) (f : Nat) (w : Int32) : Nat → G
  | 0 => r
  | t + 1 => tk1 (tkN r f w t) (f + t) w (shI t)
theorem tkN_f {r : G} {f : Nat} {w : Int32} (h : r 0 2 = nI f) : ∀ t, tkN r f w t 0 2 = nI (f + t)
  | 0 => h
  | t + 1 => rfl
theorem shI_lt {t : Nat} (h : t ≤ 4) : (shI t).toInt < 0 ↔ t = 4 := by
  have : t = 0 ∨ t = 1 ∨ t = 2 ∨ t = 3 ∨ t = 4 := by omega
  rcases this with rfl | rfl | rfl | rfl | rfl <;> decide
theorem shI_s {t : Nat} (h : t < 4) : shI t + Int32.ofInt (-8) = shI (t + 1) := by
  have : t = 0 ∨ t = 1 ∨ t = 2 ∨ t = 3 := by omega
  rcases this with rfl | rfl | rfl | rfl <;> decide
/-- a number of lines -/
def KN (j : Nat) (k : Cnt) : Prop := k.1 ≤ j ∧ k.2.1 ≤ j ∧ k.2.2.1 ≤ j ∧ k.2.2.2 ≤ j
theorem KN.kb {j : Nat} {k : Cnt} (h : KN j k) (hj : j ≤ 1000) : KB k := ⟨Nat.le_trans h.1 hj, Nat.le_trans h.2.1 hj, Nat.le_trans h.2.2.1 hj, Nat.le_trans h.2.2.2 hj⟩
theorem KN.step {b : Nat → Int32} {len n j : Nat} {x : RX} (h : KN j x.2.2) : KN (j + 1) (lnStep b len n x).2.2 := by
  obtain ⟨h1, h2, h3, h4⟩ := h
  unfold lnStep lnAny
  split
  · exact ⟨Nat.succ_le_succ h1, Nat.le_succ_of_le h2, Nat.le_succ_of_le h3, Nat.le_succ_of_le h4⟩
  split
  · exact ⟨Nat.le_succ_of_le h1, Nat.succ_le_succ h2, Nat.le_succ_of_le h3, Nat.le_succ_of_le h4⟩
  split
  · exact ⟨Nat.le_succ_of_le h1, Nat.le_succ_of_le h2, Nat.succ_le_succ h3, Nat.le_succ_of_le h4⟩
  split
  · exact ⟨Nat.le_succ_of_le h1, Nat.le_succ_of_le h2, Nat.le_succ_of_le h3, Nat.succ_le_succ h4⟩
  split
  · exact ⟨Nat.le_succ_of_le h1, Nat.le_succ_of_le h2, Nat.le_succ_of_le h3, Nat.le_succ_of_le h4⟩
  split
  · exact ⟨Nat.le_succ_of_le h1, Nat.le_succ_of_le h2, Nat.le_succ_of_le h3, Nat.le_succ_of_le h4⟩
  · exact ⟨Nat.le_succ_of_le h1, Nat.le_succ_of_le h2, Nat.le_succ_of_le h3, Nat.le_succ_of_le h4⟩
set_option maxHeartbeats 16000000 in
theorem c_X3_takeWord {l : Launch} (hl : l.stackTraces = false) {κ : Kp} {h : Nat → Nat} {r : G} {y : Eg} {f : Nat} {w : Int32} (hf : r 0 2 = nI f) (hf7 : f + 4 ≤ 700) : Ct SS MM l κ yX3_takeWord cX3_takeWord 3 none 1 0 0 [.ref (h 0), .int w] (rS κ h) (r, y) rv (fun _ u => u = (tkN r f w 4, y)) (fun _ _ => False) := by
  refine Ct.of (own := RX3) (by decide) rfl hl (by intro v hv; simp only [List.mem_cons, List.not_mem_nil, or_false] at hv; first | (rcases hv with rfl | rfl | rfl | rfl | rfl | rfl <;> rfl) | (rcases hv with rfl | rfl | rfl | rfl | rfl <;> rfl) | (rcases hv with rfl | rfl | rfl | rfl <;> rfl) | (rcases hv with rfl | rfl | rfl <;> rfl) | (rcases hv with rfl | rfl <;> rfl) | (subst hv; rfl) | exact hv.elim) (Nat.le_of_ble_eq_true rfl) (fun X hxl hxk C F N => ?_)
  subst hxl hxk
  show V X (rS (xK X) h) 0 [some (.ref (h 0)), some (.int w), none] [] (r, y) 0 0
  refine v_bipush (v := nI 24) C dX3_takeWord_0 (by decide) ?_
  refine v_istore_n C (lo2 := [some _, some _, some _]) dX3_takeWord_2 rfl (Nat.le_of_ble_eq_true rfl) rfl ?_
  have L3 : ∀ (t : Nat), (fun t => t ≤ 4) t → (fun t : Nat => V X (rS (xK X) h) 3 [some (.ref (h 0)), some (.int w), some (.int (shI t))] [] (tkN r f w t, y) 0 0) t := by
    refine v_ind (fun t : Nat => 4 - t) ?_
    rintro t ih3 hI3
    try dsimp only at hI3 ⊢
    refine v_iload_n C dX3_takeWord_3 rfl ?_
    refine v_if_lt C 47 dX3_takeWord_4 (by decide) (fun c4 => ?_) (fun c4 => ?_)
    · have ht4 := (shI_lt hI3).mp c4
      subst ht4
      refine v_vret C F dX3_takeWord_47 (Nat.le_of_ble_eq_true rfl) (Nat.le_of_ble_eq_true rfl) ?_
      rfl
    · have ht4 : t < 4 := Nat.lt_of_le_of_ne hI3 (fun z => c4 ((shI_lt hI3).mpr z))
      refine v_aload_n C dX3_takeWord_7 rfl ?_
      refine v_iconst (v := nI 1) C dX3_takeWord_8 (by decide) ?_
      refine v_callVi C (c_X3_hasRoom hl (g := (tkN r f w t, y)) (f := f + t) (k := 1) (tkN_f hf t) (by omega) (by omega)) ym_X3_hasRoom ml_X3_29 emb_id_rS rfl rfl rfl rfl rfl dX3_takeWord_9 (Nat.le_of_ble_eq_true rfl) (Nat.le_of_ble_eq_true rfl) (Nat.le_of_ble_eq_true rfl) (Nat.le_of_ble_eq_true rfl) (fun _ _ hu => hu.elim) (fun r u hu => ?_)
      obtain ⟨rfl, hu⟩ := hu
      subst u
      refine v_if_eqB C 41 dX3_takeWord_12 (by decide) (fun c12 => ?_) (fun c12 => ?_)
      · exfalso
        simp at c12
        omega
      · refine v_aload_n C dX3_takeWord_15 rfl ?_
        refine v_getr C fl_X3_18 or_rS_0_1 dX3_takeWord_16 ?_
        refine v_aload_n C dX3_takeWord_19 rfl ?_
        refine v_getiQ (x := nI (f + t)) C fl_X3_26 oi_rS_0_2 (tkN_f hf t) dX3_takeWord_20 ?_
        refine v_iload_n C dX3_takeWord_23 rfl ?_
        refine v_iload_n C dX3_takeWord_24 rfl ?_
        refine v_iushr C dX3_takeWord_25 rfl ?_
        refine v_sipush (v := nI 255) C dX3_takeWord_26 (by decide) ?_
        refine v_iand C dX3_takeWord_29 ?_
        refine v_iast C ar_rS_13 (by decide) _ ?_ rfl dX3_takeWord_30 ?_
        · omega
        refine v_aload_n C dX3_takeWord_31 rfl ?_
        refine v_dup C dX3_takeWord_32 rfl ?_
        refine v_getiQ (x := nI (f + t)) C fl_X3_26 oi_rS_0_2 (tkN_f hf t) dX3_takeWord_33 ?_
        refine v_iconst (v := nI 1) C dX3_takeWord_36 (by decide) ?_
        first | refine v_iaddN C dX3_takeWord_37 ?_ | refine v_iadd C dX3_takeWord_37 ?_
        refine v_puti C fl_X3_26 fw_X3_2 oi_rS_0_2 ⟨rfl, rfl⟩ dX3_takeWord_38 ?_
        refine V.stt (g2 := (tkN r f w (t + 1), y)) (rfl) ?_
        refine v_iinc C (lo2 := [some _, some _, some _]) dX3_takeWord_41 rfl rfl rfl rfl ?_
        refine v_goto C 3 dX3_takeWord_44 (by decide) ?_
        rw [shI_s ht4]
        exact ih3 (t + 1) (by show 4 - (t + 1) < 4 - t; omega) (by show t + 1 ≤ 4; omega)
  exact L3 0 (by show 0 ≤ 4; omega)
