theorem RXP_put {b : Nat → Int32} {len n p1 p2 : Nat} {st : St} {m : Mg} {k : Cnt} {fl : Int32} {u : Rg} {x : St × Mg} (e1 : EqH p1 (put1 b len n st k).2) (e2 : EqH p2 (put2 b len n st k).2) (ex : putF b len n p1 699 1 (advS b len (putS n p1 p2 (put2 b len n st k).1 m).1) (putS n p1 p2 (put2 b len n st k).1 m).2 = x) (h1 : RS b len x.1 u.1) (h2 : KC (k.1 + 1, k.2) u.1) (h3 : u.1 0 2 = fl) (h4 : u.2.2 = x.2) : RXP b len (lnPut b len n (st, m, k)) fl u := by
  have e1 : p1 = _ := e1
  have e2 : p2 = _ := e2
  subst e1 e2 ex
  unfold RXP lnPut
  dsimp only
  exact ⟨h1, h2, h3, h4⟩
theorem whenS_1 {p : Bool} {c : Nat} {st : St} : (whenS p c st).1 = st.1 := by
  unfold whenS
  split
  · exact failS_t
  · rfl
theorem putS_07 {n p v : Nat} {st : St} {m : Mg} : (putS n p v st m).2 0 7 = m 0 7 := by
  show (if ok (whenS (!decide (p < n)) 2 st) then byteM m p (nI v) else m) 0 7 = m 0 7
  split <;> rfl
theorem putF_t {b : Nat → Int32} {len n p f k : Nat} {st : St} {m : Mg} (h : (ok st && decide (st.1.1 = 2)) = true) : putF b len n p (f + 1) k st m = putF b len n p f (k + 1) (advS b len (putS n (p + k) st.1.2.2.2 (whenS (decide (255 < st.1.2.2.2)) 2 st) m).1) (putS n (p + k) st.1.2.2.2 (whenS (decide (255 < st.1.2.2.2)) 2 st) m).2 := if_pos h
theorem putF_e {b : Nat → Int32} {len n p f k : Nat} {st : St} {m : Mg} (h : (ok st && decide (st.1.1 = 2)) = false) : putF b len n p (f + 1) k st m = (st, m) := if_neg (by rw [h]; exact Bool.false_ne_true)
theorem linesF_t {b : Nat → Int32} {len n f : Nat} {x : RX} (h : (ok x.1 && !decide (x.1.1.1 = 0)) = true) : linesF b len n (f + 1) x = linesF b len n f (lnStep b len n x) := if_pos h
theorem linesF_e {b : Nat → Int32} {len n f : Nat} {x : RX} (h : (ok x.1 && !decide (x.1.1.1 = 0)) = false) : linesF b len n (f + 1) x = x := if_neg (by rw [h]; exact Bool.false_ne_true)
def shI (t : Nat) : Int32 := Int32.ofInt (24 - 8 * (t : Int))
def byt (w s : Int32) : Int32 := (w.toUInt32 >>> (s.toUInt32 &&& Int32.toUInt32 31)).toInt32 &&& nI 255
def tk1 (r : G) (f : Nat) (w s : Int32) : G := sG (sG r 13 (upd (r 13) f (byt w s))) 0 (upd (r 0) 2 (nI (f + 1)))
def tkN (r : G) (f : Nat) (w : Int32) : Nat → G
  | 0 => r
  | t + 1 => tk1 (tkN r f w t) (f + t) w (shI t)
theorem tkN_f {r : G} {f : Nat} {w : Int32} (h : r 0 2 = nI f) : ∀ t, tkN r f w t 0 2 = nI (f + t)
  | 0 => h
  | t + 1 => rfl
theorem shI_lt {t : Nat} (h : t ≤ 4) : (shI t).toInt < 0 ↔ t = 4 := by
  have : t = 0 ∨ t = 1 ∨ t = 2 ∨ t = 3 ∨ t = 4 := by omega
  rcases this with rfl | rfl | rfl | rfl | rfl <;> decide
theorem shI_s {t : Nat} (h : t < 4) : shI t + Int32.ofInt (-8) = shI (t + 1) := by
  have : t = 0 ∨ t = 1 ∨ t = 2 ∨ t = 3 := by omega
  rcases this with rfl | rfl | rfl | rfl <;> decide
/-- a number of lines -/
def KN (j : Nat) (k : Cnt) : Prop := k.1 ≤ j ∧ k.2.1 ≤ j ∧ k.2.2.1 ≤ j ∧ k.2.2.2 ≤ j
theorem KN.kb {j : Nat} {k : Cnt} (h : KN j k) (hj : j ≤ 1000) : KB k := ⟨Nat.le_trans h.1 hj, Nat.le_trans h.2.1 hj, Nat.le_trans h.2.2.1 hj, Nat.le_trans h.2.2.2 hj⟩
theorem KN.step {b : Nat → Int32} {len n j : Nat} {x : RX} (h : KN j x.2.2) : KN (j + 1) (lnStep b len n x).2.2 := by
  obtain ⟨h1, h2, h3, h4⟩ := h
  unfold lnStep lnAny
  split
  · exact ⟨Nat.succ_le_succ h1, Nat.le_succ_of_le h2, Nat.le_succ_of_le h3, Nat.le_succ_of_le h4⟩
  split
  · exact ⟨Nat.le_succ_of_le h1, Nat.succ_le_succ h2, Nat.le_succ_of_le h3, Nat.le_succ_of_le h4⟩
  split
  · exact ⟨Nat.le_succ_of_le h1, Nat.le_succ_of_le h2, Nat.succ_le_succ h3, Nat.le_succ_of_le h4⟩
  split
  · exact ⟨Nat.le_succ_of_le h1, Nat.le_succ_of_le h2, Nat.le_succ_of_le h3, Nat.succ_le_succ h4⟩
  split
  · exact ⟨Nat.le_succ_of_le h1, Nat.le_succ_of_le h2, Nat.le_succ_of_le h3, Nat.le_succ_of_le h4⟩
  split
  · exact ⟨Nat.le_succ_of_le h1, Nat.le_succ_of_le h2, Nat.le_succ_of_le h3, Nat.le_succ_of_le h4⟩
  · exact ⟨Nat.le_succ_of_le h1, Nat.le_succ_of_le h2, Nat.le_succ_of_le h3, Nat.le_succ_of_le h4⟩
set_option maxHeartbeats 16000000 in
theorem c_X3_takeWord {l : Launch} (hl : l.stackTraces = false) {κ : Kp} {h : Nat → Nat} {r : G} {y : Eg} {f : Nat} {w : Int32} (hf : r 0 2 = nI f) (hf7 : f + 4 ≤ 700) : Ct SS MM l κ yX3_takeWord cX3_takeWord 3 none 1 0 0 [.ref (h 0), .int w] (rS κ h) (r, y) rv (fun _ u => u = (tkN r f w 4, y)) (fun _ _ => False) := by
  refine Ct.of (own := RX3) (by decide) rfl hl (by intro v hv; simp only [List.mem_cons, List.not_mem_nil, or_false] at hv; first | (rcases hv with rfl | rfl | rfl | rfl | rfl | rfl <;> rfl) | (rcases hv with rfl | rfl | rfl | rfl | rfl <;> rfl) | (rcases hv with rfl | rfl | rfl | rfl <;> rfl) | (rcases hv with rfl | rfl | rfl <;> rfl) | (rcases hv with rfl | rfl <;> rfl) | (subst hv; rfl) | exact hv.elim) (Nat.le_of_ble_eq_true rfl) (fun X hxl hxk C F N => ?_)
  subst hxl hxk
  show V X (rS (xK X) h) 0 [some (.ref (h 0)), some (.int w), none] [] (r, y) 0 0
  refine v_bipush (v := nI 24) C dX3_takeWord_0 (by decide) ?_
  refine v_istore_n C (lo2 := [some _, some _, some _]) dX3_takeWord_2 rfl (Nat.le_of_ble_eq_true rfl) rfl ?_
  have L3 : ∀ (t : Nat), (fun t => t ≤ 4) t → (fun t : Nat => V X (rS (xK X) h) 3 [some (.ref (h 0)), some (.int w), some (.int (shI t))] [] (tkN r f w t, y) 0 0) t := by
    refine v_ind (fun t : Nat => 4 - t) ?_
    rintro t ih3 hI3
    try dsimp only at hI3 ⊢
    refine v_iload_n C dX3_takeWord_3 rfl ?_
    refine v_if_lt C 47 dX3_takeWord_4 (by decide) (fun c4 => ?_) (fun c4 => ?_)
    · have ht4 := (shI_lt hI3).mp c4
      subst ht4
      refine v_vret C F dX3_takeWord_47 (Nat.le_of_ble_eq_true rfl) (Nat.le_of_ble_eq_true rfl) ?_
      rfl
    · have ht4 : t < 4 := Nat.lt_of_le_of_ne hI3 (fun z => c4 ((shI_lt hI3).mpr z))
      refine v_aload_n C dX3_takeWord_7 rfl ?_
      refine v_iconst (v := nI 1) C dX3_takeWord_8 (by decide) ?_
      refine v_callVi C (c_X3_hasRoom hl (g := (tkN r f w t, y)) (f := f + t) (k := 1) (tkN_f hf t) (by omega) (by omega)) ym_X3_hasRoom ml_X3_29 emb_id_rS rfl rfl rfl rfl rfl dX3_takeWord_9 (Nat.le_of_ble_eq_true rfl) (Nat.le_of_ble_eq_true rfl) (Nat.le_of_ble_eq_true rfl) (Nat.le_of_ble_eq_true rfl) (fun _ _ hu => hu.elim) (fun r u hu => ?_)
      obtain ⟨rfl, hu⟩ := hu
      subst u
      refine v_if_eqB C 41 dX3_takeWord_12 (by decide) (fun c12 => ?_) (fun c12 => ?_)
      · exfalso
        simp at c12
        omega
      · refine v_aload_n C dX3_takeWord_15 rfl ?_
        refine v_getr C fl_X3_18 or_rS_0_1 dX3_takeWord_16 ?_
        refine v_aload_n C dX3_takeWord_19 rfl ?_
        refine v_getiQ (x := nI (f + t)) C fl_X3_26 oi_rS_0_2 (tkN_f hf t) dX3_takeWord_20 ?_
        refine v_iload_n C dX3_takeWord_23 rfl ?_
        refine v_iload_n C dX3_takeWord_24 rfl ?_
        refine v_iushr C dX3_takeWord_25 rfl ?_
        refine v_sipush (v := nI 255) C dX3_takeWord_26 (by decide) ?_
        refine v_iand C dX3_takeWord_29 ?_
        refine v_iast C ar_rS_13 (by decide) _ ?_ rfl dX3_takeWord_30 ?_
        · omega
        refine v_aload_n C dX3_takeWord_31 rfl ?_
        refine v_dup C dX3_takeWord_32 rfl ?_
        refine v_getiQ (x := nI (f + t)) C fl_X3_26 oi_rS_0_2 (tkN_f hf t) dX3_takeWord_33 ?_
        refine v_iconst (v := nI 1) C dX3_takeWord_36 (by decide) ?_
        first | refine v_iaddN C dX3_takeWord_37 ?_ | refine v_iadd C dX3_takeWord_37 ?_
        refine v_puti C fl_X3_26 fw_X3_2 oi_rS_0_2 ⟨rfl, rfl⟩ dX3_takeWord_38 ?_
        refine V.stt (g2 := (tkN r f w (t + 1), y)) (rfl) ?_
        refine v_iinc C (lo2 := [some _, some _, some _]) dX3_takeWord_41 rfl rfl rfl rfl ?_
        refine v_goto C 3 dX3_takeWord_44 (by decide) ?_
        rw [shI_s ht4]
        exact ih3 (t + 1) (by show 4 - (t + 1) < 4 - t; omega) (by show t + 1 ≤ 4; omega)
  exact L3 0 (by show 0 ≤ 4; omega)
set_option maxHeartbeats 16000000 in
theorem c_X3_readPut {l : Launch} (hl : l.stackTraces = false) {κ : Kp} {h : Nat → Nat} {r s : G} {m : Mg} {n len : Nat} {b : Nat → Int32} {st : St} {k : Cnt} {fl : Int32} (hR : RS b len st r) (hK : KC k r) (hf : r 0 2 = fl) (hkb : KB k) (hI : PI n (st, m, k)) : Ct SS MM l κ yX3_readPut cX3_readPut 3 none 4 0 0 [.ref (h 0)] (rS κ h) (r, s, m) rv (fun _ u => RXP b len (lnPut b len n (st, m, k)) fl u) (fun _ _ => False) := by
  refine Ct.of (own := RX3) (by decide) rfl hl (by intro v hv; simp only [List.mem_cons, List.not_mem_nil, or_false] at hv; first | (rcases hv with rfl | rfl | rfl | rfl | rfl | rfl <;> rfl) | (rcases hv with rfl | rfl | rfl | rfl | rfl <;> rfl) | (rcases hv with rfl | rfl | rfl | rfl <;> rfl) | (rcases hv with rfl | rfl | rfl <;> rfl) | (rcases hv with rfl | rfl <;> rfl) | (subst hv; rfl) | exact hv.elim) (Nat.le_of_ble_eq_true rfl) (fun X hxl hxk C F N => ?_)
  subst hxl hxk
  show V X (rS (xK X) h) 0 [some (.ref (h 0)), none, none] [] (r, s, m) 0 0
  obtain ⟨co, hMI, hco1, hco2⟩ := id hI
  have hn : m 0 7 = nI n := hMI.1.1
  have h96 : n ≤ 96 := hMI.1.2.1
  have hn1 := hMI.2.2.2.1
  obtain ⟨kb1, kb2, kb3, kb4⟩ := hkb
  obtain ⟨w, lim, pol, hw0, hw1, hw2, hlim, hlim96, hpol, hpol3⟩ := hMI.2.2.2.2.1
  refine v_aload_n C dX3_readPut_0 rfl ?_
  refine v_dup C dX3_readPut_1 rfl ?_
  refine v_getiQ (x := nI k.1) C fl_X3_95 oi_rS_0_10 (hK.1) dX3_readPut_2 ?_
  refine v_iconst (v := nI 1) C dX3_readPut_5 (by decide) ?_
  first | refine v_iaddN C dX3_readPut_6 ?_ | refine v_iadd C dX3_readPut_6 ?_
  refine v_puti C fl_X3_95 fw_X3_10 oi_rS_0_10 ⟨rfl, rfl⟩ dX3_readPut_7 ?_
  obtain ⟨r0, hr0⟩ : ∃ r0, r0 = sG r 0 (upd (r 0) 10 (nI (k.1 + 1))) := ⟨_, rfl⟩
  refine V.stt (g2 := (r0, s, m)) (by rw [hr0]) ?_
  have hR0 : RS b len st r0 := by
    rw [hr0]
    exact hR.cnt (by omega)
  have hK0 : KC (k.1 + 1, k.2) r0 := by
    rw [hr0]
    exact ⟨rfl, hK.2.1, hK.2.2.1, hK.2.2.2⟩
  have hf0 : r0 0 2 = fl := by
    rw [hr0]
    exact hf
  refine v_aload_n C dX3_readPut_10 rfl ?_
  refine v_getiQ (x := nI k.2.2.1) C fl_X3_101 oi_rS_0_12 (hK0.2.2.1) dX3_readPut_11 ?_
  have J39 : ∀ r1 : G, RS b len (if 0 < k.2.2.1 then failS 1 st else whenS (decide (20 < k.1 + 1)) 4 st) r1 → FB r0 r1 → V X (rS (xK X) h) 39 [some (.ref (h 0)), none, none] [] (r1, s, m) 0 0 := by
    intro r1 hW hF
    refine v_aload_n C dX3_readPut_39 rfl ?_
    refine v_iconst (v := nI 0) C dX3_readPut_40 (by decide) ?_
    refine v_callVi C (c_X3_readPlace hl (n := n) (lo := 0) hW.ra (by omega) hn hn1 h96) ym_X3_readPlace ml_X3_139 emb_id_rS rfl rfl rfl rfl rfl dX3_readPut_41 (Nat.le_of_ble_eq_true rfl) (Nat.le_of_ble_eq_true rfl) (Nat.le_of_ble_eq_true rfl) (Nat.le_of_ble_eq_true rfl) (fun _ _ hu => hu.elim) (fun r u hu => ?_)
    rcases u with ⟨r2, s2, m2⟩
    obtain ⟨rfl, hy, hR2, hF2⟩ := hu
    obtain ⟨he1, he2⟩ := Prod.mk.inj (show (s2, m2) = _ from hy)
    subst s2 m2
    have hR2 : RS b len (put1 b len n st k).1 r2 := hR2
    show V X _ _ _ (Value.int (nI (put1 b len n st k).2) :: _) _ _ _
    obtain ⟨p1, hp1⟩ : ∃ x, EqH x (put1 b len n st k).2 := ⟨_, rfl⟩
    have hp1e : (put1 b len n st k).2 = p1 := Eq.symm hp1
    rw [hp1e]
    clear hp1e
    have rg1 := (numS_h (Nat.zero_le _) hp1).2
    refine v_istore_n C (lo2 := [some _, some _, none]) dX3_readPut_44 rfl (Nat.le_of_ble_eq_true rfl) rfl ?_
    refine v_aload_n C dX3_readPut_45 rfl ?_
    refine v_iload_n C dX3_readPut_46 rfl ?_
    refine v_aload_n C dX3_readPut_47 rfl ?_
    refine v_iconst (v := nI 0) C dX3_readPut_48 (by decide) ?_
    refine v_sipush (v := nI 255) C dX3_readPut_49 (by decide) ?_
    refine v_callVi C (c_X3_readNumber hl (lo := 0) (hi := 255) hR2.ra (by omega) (by omega)) ym_X3_readNumber ml_X3_133 emb_id_rS rfl rfl rfl rfl rfl dX3_readPut_52 (Nat.le_of_ble_eq_true rfl) (Nat.le_of_ble_eq_true rfl) (Nat.le_of_ble_eq_true rfl) (Nat.le_of_ble_eq_true rfl) (fun _ _ hu => hu.elim) (fun r u hu => ?_)
    rcases u with ⟨r3, s3, m3⟩
    obtain ⟨rfl, hy, hR3, hF3⟩ := hu
    obtain ⟨he1, he2⟩ := Prod.mk.inj (show (s3, m3) = _ from hy)
    subst s3 m3
    have hR3 : RS b len (put2 b len n st k).1 r3 := hR3
    show V X _ _ _ (Value.int (nI (put2 b len n st k).2) :: _) _ _ _
    obtain ⟨p2, hp2⟩ : ∃ x, EqH x (put2 b len n st k).2 := ⟨_, rfl⟩
    have hp2e : (put2 b len n st k).2 = p2 := Eq.symm hp2
    rw [hp2e]
    clear hp2e
    have rg2 := (numS_h (Nat.zero_le _) hp2).2
    refine v_callVv C (c_X3_putByte hl (n := n) (p := p1) (v := p2) hR3 (by omega) hn hn1 h96) ym_X3_putByte ml_X3_143 emb_id_rS rfl rfl rfl rfl rfl dX3_readPut_55 (Nat.le_of_ble_eq_true rfl) (Nat.le_of_ble_eq_true rfl) (Nat.le_of_ble_eq_true rfl) (Nat.le_of_ble_eq_true rfl) (fun _ _ hu => hu.elim) (fun r u hu => ?_)
    rcases u with ⟨r4, s4, m4⟩
    obtain ⟨hy, hR4, hF4⟩ := hu
    obtain ⟨he1, he2⟩ := Prod.mk.inj (show (s4, m4) = _ from hy)
    subst s4 m4
    have hR4 : RS b len (putS n p1 p2 (put2 b len n st k).1 m).1 r4 := hR4
    have h407 : (putS n p1 p2 (put2 b len n st k).1 m).2 0 7 = nI n := (putS_07 (n := n)).trans hn
    refine v_aload_n C dX3_readPut_58 rfl ?_
    refine v_callVv C (c_X3_advance hl hR4.ra) ym_X3_advance ml_X3_49 emb_id_rS rfl rfl rfl rfl rfl dX3_readPut_59 (Nat.le_of_ble_eq_true rfl) (Nat.le_of_ble_eq_true rfl) (Nat.le_of_ble_eq_true rfl) (Nat.le_of_ble_eq_true rfl) (fun _ _ hu => hu.elim) (fun r u hu => ?_)
    rcases u with ⟨r5, s5, m5⟩
    obtain ⟨hy, hR5, hF5⟩ := hu
    obtain ⟨he1, he2⟩ := Prod.mk.inj (show (s5, m5) = _ from hy)
    subst s5 m5
    refine v_iconst (v := nI 1) C dX3_readPut_62 (by decide) ?_
    refine v_istore_n C (lo2 := [some _, some _, some _]) dX3_readPut_63 rfl (Nat.le_of_ble_eq_true rfl) rfl ?_
    have L64 : ∀ (t : Nat × G × St × Mg), (fun t => t.1 ≤ 700 ∧ RS b len t.2.2.1 t.2.1 ∧ FB r0 t.2.1 ∧ t.2.2.2 0 7 = nI n ∧ putF b len n p1 (700 - t.1) t.1 t.2.2.1 t.2.2.2 = putF b len n p1 699 1 (advS b len (putS n p1 p2 (put2 b len n st k).1 m).1) (putS n p1 p2 (put2 b len n st k).1 m).2) t → (fun t : Nat × G × St × Mg => V X (rS (xK X) h) 64 [some (.ref (h 0)), some (.int (nI p1)), some (.int (nI t.1))] [] (t.2.1, s, t.2.2.2) 0 0) t := by
      refine v_ind (fun t : Nat × G × St × Mg => 700 - t.1) ?_
      rintro ⟨i, rr, sx, mx⟩ ih64 hI64
      try dsimp only at hI64 ⊢
      obtain ⟨i1, hRx, i2, hmx, i3⟩ := hI64
      have hk4 := hRx.2.2.2.2.2.1
      refine v_iload_n C dX3_readPut_64 rfl ?_
      refine v_sipush (v := nI 700) C dX3_readPut_65 (by decide) ?_
      first | refine v_icmp_geN C 122 dX3_readPut_68 (by decide) (by omega) (by omega) (fun c68 => ?_) (fun c68 => ?_) | refine v_icmp_ge C 122 dX3_readPut_68 (by decide) (fun c68 => ?_) (fun c68 => ?_)
      · have hz : putF b len n p1 (700 - i) i sx mx = (sx, mx) := by
          rw [show 700 - i = 0 by omega]
          rfl
        refine v_vret C F dX3_readPut_122 (Nat.le_of_ble_eq_true rfl) (Nat.le_of_ble_eq_true rfl) ?_
        rw [hz] at i3
        exact RXP_put hp1 hp2 i3.symm hRx (hK0.fb i2) (i2.2.1.trans hf0) rfl
      · refine v_aload_n C dX3_readPut_71 rfl ?_
        refine v_getiQ (x := nI sx.2.1) C fl_X3_40 oi_rS_0_3 (hRx.2.2.2.1.2.2.1) dX3_readPut_72 ?_
        refine v_if_ne C 122 dX3_readPut_75 (by decide) (fun c75 => ?_) (fun c75 => ?_)
        · have hz : putF b len n p1 (700 - i) i sx mx = (sx, mx) := by
            rw [show 700 - i = (700 - (i + 1)) + 1 by omega]
            exact putF_e (by rw [(ok_n c75).1]; rfl)
          refine v_vret C F dX3_readPut_122 (Nat.le_of_ble_eq_true rfl) (Nat.le_of_ble_eq_true rfl) ?_
          rw [hz] at i3
          exact RXP_put hp1 hp2 i3.symm hRx (hK0.fb i2) (i2.2.1.trans hf0) rfl
        · have ho := (ok_z hRx.2.2.2.1.1 c75).1
          refine v_aload_n C dX3_readPut_78 rfl ?_
          refine v_getiQ (x := nI sx.1.1) C fl_X3_43 oi_rS_0_6 (hRx.2.2.2.2.1.1) dX3_readPut_79 ?_
          refine v_iconst (v := nI 2) C dX3_readPut_82 (by decide) ?_
          first | refine v_icmp_neN C 122 dX3_readPut_83 (by decide) (by omega) (by omega) (fun c83 => ?_) (fun c83 => ?_) | refine v_icmp_ne C 122 dX3_readPut_83 (by decide) (fun c83 => ?_) (fun c83 => ?_)
          · have hz : putF b len n p1 (700 - i) i sx mx = (sx, mx) := by
              rw [show 700 - i = (700 - (i + 1)) + 1 by omega]
              exact putF_e (by rw [decide_eq_false c83, Bool.and_false])
            refine v_vret C F dX3_readPut_122 (Nat.le_of_ble_eq_true rfl) (Nat.le_of_ble_eq_true rfl) ?_
            rw [hz] at i3
            exact RXP_put hp1 hp2 i3.symm hRx (hK0.fb i2) (i2.2.1.trans hf0) rfl
          · have hv := hRx.2.2.2.2.2.2.2.2 c83
            have hz : putF b len n p1 (700 - i) i sx mx = putF b len n p1 (700 - (i + 1)) (i + 1) (advS b len (putS n (p1 + i) sx.1.2.2.2 (whenS (decide (255 < sx.1.2.2.2)) 2 sx) mx).1) (putS n (p1 + i) sx.1.2.2.2 (whenS (decide (255 < sx.1.2.2.2)) 2 sx) mx).2 := by
              rw [show 700 - i = (700 - (i + 1)) + 1 by omega]
              exact putF_t (by rw [ho, decide_eq_true c83]; rfl)
            refine v_aload_n C dX3_readPut_86 rfl ?_
            refine v_getiQ (x := nI sx.1.2.2.2) C fl_X3_136 oi_rS_0_9 (hRx.2.2.2.2.1.2.2.2 c83) dX3_readPut_87 ?_
            refine v_sipush (v := nI 255) C dX3_readPut_90 (by decide) ?_
            have J101 : ∀ r7 : G, RS b len (whenS (decide (255 < sx.1.2.2.2)) 2 sx) r7 → FB rr r7 → r7 0 9 = nI sx.1.2.2.2 → V X (rS (xK X) h) 101 [some (.ref (h 0)), some (.int (nI p1)), some (.int (nI i))] [] (r7, s, mx) 0 0 := by
              intro r7 hV hG hN
              refine v_aload_n C dX3_readPut_101 rfl ?_
              refine v_iload_n C dX3_readPut_102 rfl ?_
              refine v_iload_n C dX3_readPut_103 rfl ?_
              first | refine v_iaddN C dX3_readPut_104 ?_ | refine v_iadd C dX3_readPut_104 ?_
              refine v_aload_n C dX3_readPut_105 rfl ?_
              refine v_getiQ (x := nI sx.1.2.2.2) C fl_X3_136 oi_rS_0_9 (hN) dX3_readPut_106 ?_
              refine v_callVv C (c_X3_putByte hl (n := n) (p := p1 + i) (v := sx.1.2.2.2) hV (by omega) hmx hn1 h96) ym_X3_putByte ml_X3_143 emb_id_rS rfl rfl rfl rfl rfl dX3_readPut_109 (Nat.le_of_ble_eq_true rfl) (Nat.le_of_ble_eq_true rfl) (Nat.le_of_ble_eq_true rfl) (Nat.le_of_ble_eq_true rfl) (fun _ _ hu => hu.elim) (fun r u hu => ?_)
              rcases u with ⟨r8, s8, m8⟩
              obtain ⟨hy, hR8, hF8⟩ := hu
              obtain ⟨he1, he2⟩ := Prod.mk.inj (show (s8, m8) = _ from hy)
              subst s8 m8
              refine v_aload_n C dX3_readPut_112 rfl ?_
              refine v_callVv C (c_X3_advance hl hR8.ra) ym_X3_advance ml_X3_49 emb_id_rS rfl rfl rfl rfl rfl dX3_readPut_113 (Nat.le_of_ble_eq_true rfl) (Nat.le_of_ble_eq_true rfl) (Nat.le_of_ble_eq_true rfl) (Nat.le_of_ble_eq_true rfl) (fun _ _ hu => hu.elim) (fun r u hu => ?_)
              rcases u with ⟨r9, s9, m9⟩
              obtain ⟨hy, hR9, hF9⟩ := hu
              obtain ⟨he1, he2⟩ := Prod.mk.inj (show (s9, m9) = _ from hy)
              subst s9 m9
              first | refine v_iinc1 C (lo2 := [some _, some _, some _]) dX3_readPut_116 rfl rfl rfl ?_ | refine v_iinc C (lo2 := [some _, some _, some _]) dX3_readPut_116 rfl rfl rfl rfl ?_
              refine v_goto C 64 dX3_readPut_119 (by decide) ?_
              rw [hz] at i3
              exact ih64 (i + 1, r9, advS b len (putS n (p1 + i) sx.1.2.2.2 (whenS (decide (255 < sx.1.2.2.2)) 2 sx) mx).1, (putS n (p1 + i) sx.1.2.2.2 (whenS (decide (255 < sx.1.2.2.2)) 2 sx) mx).2) (by show 700 - (i + 1) < 700 - i; omega) ⟨by show i + 1 ≤ 700; omega, hR9, i2.tr ((hG.tr hF8).tr hF9), (putS_07 (n := n)).trans hmx, i3⟩
            first | refine v_icmp_leN C 101 dX3_readPut_93 (by decide) (by omega) (by omega) (fun c93 => ?_) (fun c93 => ?_) | refine v_icmp_le C 101 dX3_readPut_93 (by decide) (fun c93 => ?_) (fun c93 => ?_)
            · have hV : RS b len (whenS (decide (255 < sx.1.2.2.2)) 2 sx) rr := by
                rw [whenS_f (by simp; omega)]
                exact hRx
              have hG := FB.rf (r := rr)
              have hN := hRx.2.2.2.2.1.2.2.2 c83
              exact J101 _ hV hG hN
            · refine v_aload_n C dX3_readPut_96 rfl ?_
              refine v_iconst (v := nI 2) C dX3_readPut_97 (by decide) ?_
              refine v_callVv C (c_X3_fail hl (cd := 2) hRx (by omega) (by omega)) ym_X3_fail ml_X3_46 emb_id_rS rfl rfl rfl rfl rfl dX3_readPut_98 (Nat.le_of_ble_eq_true rfl) (Nat.le_of_ble_eq_true rfl) (Nat.le_of_ble_eq_true rfl) (Nat.le_of_ble_eq_true rfl) (fun _ _ hu => hu.elim) (fun r u hu => ?_)
              rcases u with ⟨r7, s7, m7⟩
              obtain ⟨hy, hR7, hF7⟩ := hu
              obtain ⟨he1, he2⟩ := Prod.mk.inj (show (s7, m7) = _ from hy)
              subst s7 m7
              have hV : RS b len (whenS (decide (255 < sx.1.2.2.2)) 2 sx) r7 := by
                rw [whenS_t (by simp; omega)]
                exact hR7
              have hG := hF7
              have hN : r7 0 9 = nI sx.1.2.2.2 := by
                have z := hV.2.2.2.2.1
                rw [whenS_1] at z
                exact z.2.2.2 c83
              exact J101 _ hV hG hN
    exact L64 (1, r5, advS b len (putS n p1 p2 (put2 b len n st k).1 m).1, (putS n p1 p2 (put2 b len n st k).1 m).2) ⟨by show 1 ≤ 700; omega, hR5, (((hF.tr hF2).tr hF3).tr hF4).tr hF5, h407, rfl⟩
  refine v_if_le C 25 dX3_readPut_14 (by decide) (fun c14 => ?_) (fun c14 => ?_)
  · rw [nI_toInt (by omega)] at c14
    have c14 : ¬ 0 < k.2.2.1 := by omega
    refine v_aload_n C dX3_readPut_25 rfl ?_
    refine v_getiQ (x := nI (k.1 + 1)) C fl_X3_95 oi_rS_0_10 (hK0.1) dX3_readPut_26 ?_
    refine v_bipush (v := nI 20) C dX3_readPut_29 (by decide) ?_
    first | refine v_icmp_leN C 39 dX3_readPut_31 (by decide) (by omega) (by omega) (fun c31 => ?_) (fun c31 => ?_) | refine v_icmp_le C 39 dX3_readPut_31 (by decide) (fun c31 => ?_) (fun c31 => ?_)
    · have hW : RS b len (if 0 < k.2.2.1 then failS 1 st else whenS (decide (20 < k.1 + 1)) 4 st) r0 := by
        rw [if_neg c14, whenS_f (by simp; omega)]
        exact hR0
      have hF := FB.rf (r := r0)
      exact J39 _ hW hF
    · refine v_aload_n C dX3_readPut_34 rfl ?_
      refine v_iconst (v := nI 4) C dX3_readPut_35 (by decide) ?_
      refine v_callVv C (c_X3_fail hl (cd := 4) hR0 (by omega) (by omega)) ym_X3_fail ml_X3_46 emb_id_rS rfl rfl rfl rfl rfl dX3_readPut_36 (Nat.le_of_ble_eq_true rfl) (Nat.le_of_ble_eq_true rfl) (Nat.le_of_ble_eq_true rfl) (Nat.le_of_ble_eq_true rfl) (fun _ _ hu => hu.elim) (fun r u hu => ?_)
      rcases u with ⟨r1, s1, m1⟩
      obtain ⟨hy, hR1, hF1⟩ := hu
      obtain ⟨he1, he2⟩ := Prod.mk.inj (show (s1, m1) = _ from hy)
      subst s1 m1
      have hW : RS b len (if 0 < k.2.2.1 then failS 1 st else whenS (decide (20 < k.1 + 1)) 4 st) r1 := by
        rw [if_neg c14, whenS_t (by simp; omega)]
        exact hR1
      have hF := hF1
      exact J39 _ hW hF
  · rw [nI_toInt (by omega)] at c14
    have c14 : 0 < k.2.2.1 := by omega
    refine v_aload_n C dX3_readPut_17 rfl ?_
    refine v_iconst (v := nI 1) C dX3_readPut_18 (by decide) ?_
    refine v_callVv C (c_X3_fail hl (cd := 1) hR0 (by omega) (by omega)) ym_X3_fail ml_X3_46 emb_id_rS rfl rfl rfl rfl rfl dX3_readPut_19 (Nat.le_of_ble_eq_true rfl) (Nat.le_of_ble_eq_true rfl) (Nat.le_of_ble_eq_true rfl) (Nat.le_of_ble_eq_true rfl) (fun _ _ hu => hu.elim) (fun r u hu => ?_)
    rcases u with ⟨r1, s1, m1⟩
    obtain ⟨hy, hR1, hF1⟩ := hu
    obtain ⟨he1, he2⟩ := Prod.mk.inj (show (s1, m1) = _ from hy)
    subst s1 m1
    have hW : RS b len (if 0 < k.2.2.1 then failS 1 st else whenS (decide (20 < k.1 + 1)) 4 st) r1 := by
      rw [if_pos c14]
      exact hR1
    have hF := hF1
    refine v_goto C 39 dX3_readPut_22 (by decide) ?_
    exact J39 _ hW hF
set_option maxHeartbeats 16000000 in
theorem c_X3_readHeader {l : Launch} (hl : l.stackTraces = false) {κ : Kp} {h : Nat → Nat} {r s : G} {m : Mg} {len : Nat} {b : Nat → Int32} {fl : Int32} (hR : RA b len st0 r) (hK : KC (0, 0, 0, 0) r) (hf : r 0 2 = fl) : Ct SS MM l κ yX3_readHeader cX3_readHeader 2 none 6 0 0 [.ref (h 0)] (rS κ h) (r, s, m) rv (fun _ u => RXP b len (advS b len (hd4 b len).1, hdM b len m, (0, 0, 0, 0)) fl u) (fun _ _ => False) := by
  refine Ct.of (own := RX3) (by decide) rfl hl (by intro v hv; simp only [List.mem_cons, List.not_mem_nil, or_false] at hv; first | (rcases hv with rfl | rfl | rfl | rfl | rfl | rfl <;> rfl) | (rcases hv with rfl | rfl | rfl | rfl | rfl <;> rfl) | (rcases hv with rfl | rfl | rfl | rfl <;> rfl) | (rcases hv with rfl | rfl | rfl <;> rfl) | (rcases hv with rfl | rfl <;> rfl) | (subst hv; rfl) | exact hv.elim) (Nat.le_of_ble_eq_true rfl) (fun X hxl hxk C F N => ?_)
  subst hxl hxk
  show V X (rS (xK X) h) 0 [some (.ref (h 0)), none] [] (r, s, m) 0 0
  refine v_aload_n C dX3_readHeader_0 rfl ?_
  refine v_getr C fl_X3_12 or_rS_0_0 dX3_readHeader_1 ?_
  refine v_getr C fl_X3_107 or_rS_1_0 dX3_readHeader_4 ?_
  refine v_astore_n C (lo2 := [some _, some _]) dX3_readHeader_7 rfl (Nat.le_of_ble_eq_true rfl) rfl ?_
  refine v_aload_n C dX3_readHeader_8 rfl ?_
  refine v_aload_n C dX3_readHeader_9 rfl ?_
  refine v_ldcS C (i := 0) rfl rfl dX3_readHeader_10 ?_
  refine v_iconst (v := nI 1) C dX3_readHeader_12 (by decide) ?_
  refine v_bipush (v := nI 96) C dX3_readHeader_13 (by decide) ?_
  refine v_callVi C (c_X3_readNamedN hl (i := 0) (by decide) hR (by omega) (by omega)) ym_X3_readNamed ml_X3_117 emb_id_rS rfl rfl rfl rfl rfl dX3_readHeader_15 (Nat.le_of_ble_eq_true rfl) (Nat.le_of_ble_eq_true rfl) (Nat.le_of_ble_eq_true rfl) (Nat.le_of_ble_eq_true rfl) (fun _ _ hu => hu.elim) (fun r u hu => ?_)
  rcases u with ⟨r1, s1, m1⟩
  obtain ⟨rfl, hy, hR1, hF1⟩ := hu
  obtain ⟨he1, he2⟩ := Prod.mk.inj (show (s1, m1) = _ from hy)
  subst s1 m1
  have hR1 : RS b len (hd1 b len).1 r1 := hR1
  refine v_puti C fl_X3_121 fw_X2_7 oi_rS_5_7 ⟨rfl, rfl⟩ dX3_readHeader_18 ?_
  refine V.stt (g2 := (r1, s, szM m (nI (hd1 b len).2))) (rfl) ?_
  refine v_aload_n C dX3_readHeader_21 rfl ?_
  refine v_getr C fl_X3_124 or_rS_5_4 dX3_readHeader_22 ?_
  refine v_iconst (v := nI 0) C dX3_readHeader_25 (by decide) ?_
  refine v_aload_n C dX3_readHeader_26 rfl ?_
  refine v_ldcS C (i := 1) rfl rfl dX3_readHeader_27 ?_
  refine v_iconst (v := nI 1) C dX3_readHeader_29 (by decide) ?_
  refine v_bipush (v := nI 20) C dX3_readHeader_30 (by decide) ?_
  refine v_callVi C (c_X3_readNamedN hl (i := 1) (by decide) hR1.ra (by omega) (by omega)) ym_X3_readNamed ml_X3_117 emb_id_rS rfl rfl rfl rfl rfl dX3_readHeader_32 (Nat.le_of_ble_eq_true rfl) (Nat.le_of_ble_eq_true rfl) (Nat.le_of_ble_eq_true rfl) (Nat.le_of_ble_eq_true rfl) (fun _ _ hu => hu.elim) (fun r u hu => ?_)
  rcases u with ⟨r2, s2, m2⟩
  obtain ⟨rfl, hy, hR2, hF2⟩ := hu
  obtain ⟨he1, he2⟩ := Prod.mk.inj (show (s2, m2) = _ from hy)
  subst s2 m2
  have hR2 : RS b len (hd2 b len).1 r2 := hR2
  refine v_iast C ar_rS_10 (by decide) _ ?_ rfl dX3_readHeader_35 ?_
  · omega
  refine V.stt (g2 := (r2, s, setM (szM m (nI (hd1 b len).2)) 0 (nI (hd2 b len).2))) (rfl) ?_
  refine v_aload_n C dX3_readHeader_36 rfl ?_
  refine v_getr C fl_X3_124 or_rS_5_4 dX3_readHeader_37 ?_
  refine v_iconst (v := nI 1) C dX3_readHeader_40 (by decide) ?_
  refine v_aload_n C dX3_readHeader_41 rfl ?_
  refine v_ldcS C (i := 2) rfl rfl dX3_readHeader_42 ?_
  refine v_iconst (v := nI 0) C dX3_readHeader_44 (by decide) ?_
  refine v_bipush (v := nI 96) C dX3_readHeader_45 (by decide) ?_
  refine v_callVi C (c_X3_readNamedN hl (i := 2) (by decide) hR2.ra (by omega) (by omega)) ym_X3_readNamed ml_X3_117 emb_id_rS rfl rfl rfl rfl rfl dX3_readHeader_47 (Nat.le_of_ble_eq_true rfl) (Nat.le_of_ble_eq_true rfl) (Nat.le_of_ble_eq_true rfl) (Nat.le_of_ble_eq_true rfl) (fun _ _ hu => hu.elim) (fun r u hu => ?_)
  rcases u with ⟨r3, s3, m3⟩
  obtain ⟨rfl, hy, hR3, hF3⟩ := hu
  obtain ⟨he1, he2⟩ := Prod.mk.inj (show (s3, m3) = _ from hy)
  subst s3 m3
  have hR3 : RS b len (hd3 b len).1 r3 := hR3
  refine v_iast C ar_rS_10 (by decide) _ ?_ rfl dX3_readHeader_50 ?_
  · omega
  refine V.stt (g2 := (r3, s, setM (setM (szM m (nI (hd1 b len).2)) 0 (nI (hd2 b len).2)) 1 (nI (hd3 b len).2))) (rfl) ?_
  refine v_aload_n C dX3_readHeader_51 rfl ?_
  refine v_getr C fl_X3_124 or_rS_5_4 dX3_readHeader_52 ?_
  refine v_iconst (v := nI 2) C dX3_readHeader_55 (by decide) ?_
  refine v_aload_n C dX3_readHeader_56 rfl ?_
  refine v_ldcS C (i := 3) rfl rfl dX3_readHeader_57 ?_
  refine v_iconst (v := nI 0) C dX3_readHeader_59 (by decide) ?_
  refine v_iconst (v := nI 3) C dX3_readHeader_60 (by decide) ?_
  refine v_callVi C (c_X3_readNamedN hl (i := 3) (by decide) hR3.ra (by omega) (by omega)) ym_X3_readNamed ml_X3_117 emb_id_rS rfl rfl rfl rfl rfl dX3_readHeader_61 (Nat.le_of_ble_eq_true rfl) (Nat.le_of_ble_eq_true rfl) (Nat.le_of_ble_eq_true rfl) (Nat.le_of_ble_eq_true rfl) (fun _ _ hu => hu.elim) (fun r u hu => ?_)
  rcases u with ⟨r4, s4, m4⟩
  obtain ⟨rfl, hy, hR4, hF4⟩ := hu
  obtain ⟨he1, he2⟩ := Prod.mk.inj (show (s4, m4) = _ from hy)
  subst s4 m4
  have hR4 : RS b len (hd4 b len).1 r4 := hR4
  refine v_iast C ar_rS_10 (by decide) _ ?_ rfl dX3_readHeader_64 ?_
  · omega
  refine V.stt (g2 := (r4, s, hdM b len m)) (rfl) ?_
  refine v_aload_n C dX3_readHeader_65 rfl ?_
  refine v_callVv C (c_X3_advance hl hR4.ra) ym_X3_advance ml_X3_49 emb_id_rS rfl rfl rfl rfl rfl dX3_readHeader_66 (Nat.le_of_ble_eq_true rfl) (Nat.le_of_ble_eq_true rfl) (Nat.le_of_ble_eq_true rfl) (Nat.le_of_ble_eq_true rfl) (fun _ _ hu => hu.elim) (fun r u hu => ?_)
  rcases u with ⟨r5, s5, m5⟩
  obtain ⟨hy, hR5, hF5⟩ := hu
  obtain ⟨he1, he2⟩ := Prod.mk.inj (show (s5, m5) = _ from hy)
  subst s5 m5
  refine v_vret C F dX3_readHeader_69 (Nat.le_of_ble_eq_true rfl) (Nat.le_of_ble_eq_true rfl) ?_
  have hFF := (((hF1.tr hF2).tr hF3).tr hF4).tr hF5
  exact ⟨hR5, hK.fb hFF, hFF.2.1.trans hf, rfl⟩
set_option maxHeartbeats 16000000 in
theorem c_X3_parse {l : Launch} (hl : l.stackTraces = false) {κ : Kp} {h : Nat → Nat} {r s : G} {m : Mg} {k f : Nat} (hf : r 0 2 = nI f) (hf7 : f ≤ 700) (hk : k ≤ f) : Ct SS MM l κ yX3_parse cX3_parse 3 (some FieldType.boolean) 7 0 0 [.ref (h 0), .int (nI k)] (rS κ h) (r, s, m) ri (fun v u => v = bI (ok (parS (r 13) k (m 7)).1) ∧ RXP (r 13) k (parS (r 13) k (m 7)) (nI 0) u) (fun _ _ => False) := by
  refine Ct.of (own := RX3) (by decide) rfl hl (by intro v hv; simp only [List.mem_cons, List.not_mem_nil, or_false] at hv; first | (rcases hv with rfl | rfl | rfl | rfl | rfl | rfl <;> rfl) | (rcases hv with rfl | rfl | rfl | rfl | rfl <;> rfl) | (rcases hv with rfl | rfl | rfl | rfl <;> rfl) | (rcases hv with rfl | rfl | rfl <;> rfl) | (rcases hv with rfl | rfl <;> rfl) | (subst hv; rfl) | exact hv.elim) (Nat.le_of_ble_eq_true rfl) (fun X hxl hxk C F N => ?_)
  subst hxl hxk
  show V X (rS (xK X) h) 0 [some (.ref (h 0)), some (.int (nI k)), none] [] (r, s, m) 0 0
  generalize hb : r 13 = b
  obtain ⟨n, hnn⟩ : ∃ n, EqH n (hd1 b k).2 := ⟨_, rfl⟩
  refine v_aload_n C dX3_parse_0 rfl ?_
  refine v_iload_n C dX3_parse_1 rfl ?_
  refine v_callVv C (c_X3_startText hl hf hf7 hk) ym_X3_startText ml_X3_33 emb_id_rS rfl rfl rfl rfl rfl dX3_parse_2 (Nat.le_of_ble_eq_true rfl) (Nat.le_of_ble_eq_true rfl) (Nat.le_of_ble_eq_true rfl) (Nat.le_of_ble_eq_true rfl) (fun _ _ hu => hu.elim) (fun r u hu => ?_)
  rcases u with ⟨r1, s1, m1⟩
  obtain ⟨hR1, hK1, hf1, s2, hy⟩ := hu
  obtain ⟨he1, he2⟩ := Prod.mk.inj (show (s1, m1) = _ from hy)
  subst s1 m1
  rw [hb] at hR1
  refine v_aload_n C dX3_parse_5 rfl ?_
  refine v_callVv C (c_X3_readHeader hl hR1 hK1 hf1) ym_X3_readHeader ml_X3_37 emb_id_rS rfl rfl rfl rfl rfl dX3_parse_6 (Nat.le_of_ble_eq_true rfl) (Nat.le_of_ble_eq_true rfl) (Nat.le_of_ble_eq_true rfl) (Nat.le_of_ble_eq_true rfl) (fun _ _ hu => hu.elim) (fun r u hu => ?_)
  rcases u with ⟨r3, s3, m3⟩
  obtain ⟨hX1, hX2, hX3, hX4⟩ := hu
  have hX4 : m3 = _ := hX4
  subst m3
  refine v_iconst (v := nI 0) C dX3_parse_9 (by decide) ?_
  refine v_istore_n C (lo2 := [some _, some _, some _]) dX3_parse_10 rfl (Nat.le_of_ble_eq_true rfl) rfl ?_
  have L11 : ∀ (t : Nat × G × G × RX), (fun t => t.1 ≤ 700 ∧ RXP b k t.2.2.2 (nI 0) (t.2.1, t.2.2.1, t.2.2.2.2.1) ∧ linesF b k n (700 - t.1) t.2.2.2 = parS b k (m 7) ∧ PI n t.2.2.2 ∧ KN t.1 t.2.2.2.2.2) t → (fun t : Nat × G × G × RX => V X (rS (xK X) h) 11 [some (.ref (h 0)), some (.int (nI k)), some (.int (nI t.1))] [] (t.2.1, t.2.2.1, t.2.2.2.2.1) 0 0) t := by
    refine v_ind (fun t : Nat × G × G × RX => 700 - t.1) ?_
    rintro ⟨i, rr, ss, sx, mx, kx⟩ ih11 hI11
    try dsimp only at hI11 ⊢
    obtain ⟨i1, ⟨hX1, hX2, hX3, -⟩, i3, hPI, hkn⟩ := hI11
    have hX1 : RS b k sx rr := hX1
    have hX2 : KC kx rr := hX2
    have hX3 : rr 0 2 = nI 0 := hX3
    have hkn : KN i kx := hkn
    have hk4 := hX1.2.2.2.2.2.1
    refine v_iload_n C dX3_parse_11 rfl ?_
    refine v_sipush (v := nI 700) C dX3_parse_12 (by decide) ?_
    first | refine v_icmp_geN C 158 dX3_parse_15 (by decide) (by omega) (by omega) (fun c15 => ?_) (fun c15 => ?_) | refine v_icmp_ge C 158 dX3_parse_15 (by decide) (fun c15 => ?_) (fun c15 => ?_)
    · have hz : linesF b k n (700 - i) (sx, mx, kx) = (sx, mx, kx) := by
        rw [show 700 - i = 0 by omega]
        rfl
      refine v_aload_n C dX3_parse_158 rfl ?_
      refine v_getiQ (x := nI sx.2.1) C fl_X3_40 oi_rS_0_3 (hX1.2.2.2.1.2.2.1) dX3_parse_159 ?_
      refine v_if_ne C 169 dX3_parse_162 (by decide) (fun c162 => ?_) (fun c162 => ?_)
      · refine v_iconst (v := nI 0) C dX3_parse_169 (by decide) ?_
        refine v_iret C F (by first | rfl | exact bI_nar _) dX3_parse_170 (Nat.le_of_ble_eq_true rfl) (Nat.le_of_ble_eq_true rfl) ?_
        rw [hz] at i3
        refine ⟨?_, ?_⟩
        · rw [← i3]
          first
          | exact bI_t (ok_z hX1.2.2.2.1.1 c162).1
          | exact bI_f (ok_n c162).1
        · rw [← i3]
          exact ⟨hX1, hX2, hX3, rfl⟩
      · refine v_iconst (v := nI 1) C dX3_parse_165 (by decide) ?_
        refine v_goto C 170 dX3_parse_166 (by decide) ?_
        refine v_iret C F (by first | rfl | exact bI_nar _) dX3_parse_170 (Nat.le_of_ble_eq_true rfl) (Nat.le_of_ble_eq_true rfl) ?_
        rw [hz] at i3
        refine ⟨?_, ?_⟩
        · rw [← i3]
          first
          | exact bI_t (ok_z hX1.2.2.2.1.1 c162).1
          | exact bI_f (ok_n c162).1
        · rw [← i3]
          exact ⟨hX1, hX2, hX3, rfl⟩
    · refine v_aload_n C dX3_parse_18 rfl ?_
      refine v_getiQ (x := nI sx.2.1) C fl_X3_40 oi_rS_0_3 (hX1.2.2.2.1.2.2.1) dX3_parse_19 ?_
      refine v_if_ne C 158 dX3_parse_22 (by decide) (fun c22 => ?_) (fun c22 => ?_)
      · have hz : linesF b k n (700 - i) (sx, mx, kx) = (sx, mx, kx) := by
          rw [show 700 - i = (700 - (i + 1)) + 1 by omega]
          exact linesF_e (by rw [(ok_n c22).1]; rfl)
        refine v_aload_n C dX3_parse_158 rfl ?_
        refine v_getiQ (x := nI sx.2.1) C fl_X3_40 oi_rS_0_3 (hX1.2.2.2.1.2.2.1) dX3_parse_159 ?_
        refine v_if_ne C 169 dX3_parse_162 (by decide) (fun c162 => ?_) (fun c162 => ?_)
        · refine v_iconst (v := nI 0) C dX3_parse_169 (by decide) ?_
          refine v_iret C F (by first | rfl | exact bI_nar _) dX3_parse_170 (Nat.le_of_ble_eq_true rfl) (Nat.le_of_ble_eq_true rfl) ?_
          rw [hz] at i3
          refine ⟨?_, ?_⟩
          · rw [← i3]
            first
            | exact bI_t (ok_z hX1.2.2.2.1.1 c162).1
            | exact bI_f (ok_n c162).1
          · rw [← i3]
            exact ⟨hX1, hX2, hX3, rfl⟩
        · refine v_iconst (v := nI 1) C dX3_parse_165 (by decide) ?_
          refine v_goto C 170 dX3_parse_166 (by decide) ?_
          refine v_iret C F (by first | rfl | exact bI_nar _) dX3_parse_170 (Nat.le_of_ble_eq_true rfl) (Nat.le_of_ble_eq_true rfl) ?_
          rw [hz] at i3
          refine ⟨?_, ?_⟩
          · rw [← i3]
            first
            | exact bI_t (ok_z hX1.2.2.2.1.1 c162).1
            | exact bI_f (ok_n c162).1
          · rw [← i3]
            exact ⟨hX1, hX2, hX3, rfl⟩
      · have ho := (ok_z hX1.2.2.2.1.1 c22).1
        refine v_aload_n C dX3_parse_25 rfl ?_
        refine v_getiQ (x := nI sx.1.1) C fl_X3_43 oi_rS_0_6 (hX1.2.2.2.2.1.1) dX3_parse_26 ?_
        refine v_if_eq C 158 dX3_parse_29 (by decide) (fun c29 => ?_) (fun c29 => ?_)
        · have c29 : sx.1.1 = 0 := nI_inj (b := 0) (by omega) (by omega) c29
          have hz : linesF b k n (700 - i) (sx, mx, kx) = (sx, mx, kx) := by
            rw [show 700 - i = (700 - (i + 1)) + 1 by omega]
            exact linesF_e (by rw [decide_eq_true c29]; simp)
          refine v_aload_n C dX3_parse_158 rfl ?_
          refine v_getiQ (x := nI sx.2.1) C fl_X3_40 oi_rS_0_3 (hX1.2.2.2.1.2.2.1) dX3_parse_159 ?_
          refine v_if_ne C 169 dX3_parse_162 (by decide) (fun c162 => ?_) (fun c162 => ?_)
          · refine v_iconst (v := nI 0) C dX3_parse_169 (by decide) ?_
            refine v_iret C F (by first | rfl | exact bI_nar _) dX3_parse_170 (Nat.le_of_ble_eq_true rfl) (Nat.le_of_ble_eq_true rfl) ?_
            rw [hz] at i3
            refine ⟨?_, ?_⟩
            · rw [← i3]
              first
              | exact bI_t (ok_z hX1.2.2.2.1.1 c162).1
              | exact bI_f (ok_n c162).1
            · rw [← i3]
              exact ⟨hX1, hX2, hX3, rfl⟩
          · refine v_iconst (v := nI 1) C dX3_parse_165 (by decide) ?_
            refine v_goto C 170 dX3_parse_166 (by decide) ?_
            refine v_iret C F (by first | rfl | exact bI_nar _) dX3_parse_170 (Nat.le_of_ble_eq_true rfl) (Nat.le_of_ble_eq_true rfl) ?_
            rw [hz] at i3
            refine ⟨?_, ?_⟩
            · rw [← i3]
              first
              | exact bI_t (ok_z hX1.2.2.2.1.1 c162).1
              | exact bI_f (ok_n c162).1
            · rw [← i3]
              exact ⟨hX1, hX2, hX3, rfl⟩
        · have c29 : ¬ sx.1.1 = 0 := fun z => c29 (by rw [z]; rfl)
          have hz : linesF b k n (700 - i) (sx, mx, kx) = linesF b k n (700 - (i + 1)) (lnStep b k n (sx, mx, kx)) := by
            rw [show 700 - i = (700 - (i + 1)) + 1 by omega]
            exact linesF_t (by rw [ho, decide_eq_false c29]; rfl)
          refine v_aload_n C dX3_parse_32 rfl ?_
          refine v_getiQ (x := nI sx.1.1) C fl_X3_43 oi_rS_0_6 (hX1.2.2.2.2.1.1) dX3_parse_33 ?_
          refine v_iconst (v := nI 3) C dX3_parse_36 (by decide) ?_
          have J45 : ∀ r5 : G, RS b k (whenS (!decide (sx.1.1 = 3)) 1 sx) r5 → FB rr r5 → V X (rS (xK X) h) 45 [some (.ref (h 0)), some (.int (nI k)), some (.int (nI i))] [] (r5, ss, mx) 0 0 := by
            intro r5 hA hG
            refine v_aload_n C dX3_parse_45 rfl ?_
            refine v_callVv C (c_X3_advance hl hA.ra) ym_X3_advance ml_X3_49 emb_id_rS rfl rfl rfl rfl rfl dX3_parse_46 (Nat.le_of_ble_eq_true rfl) (Nat.le_of_ble_eq_true rfl) (Nat.le_of_ble_eq_true rfl) (Nat.le_of_ble_eq_true rfl) (fun _ _ hu => hu.elim) (fun r u hu => ?_)
            rcases u with ⟨r6, s6, m6⟩
            obtain ⟨hy, hB, hF6⟩ := hu
            obtain ⟨he1, he2⟩ := Prod.mk.inj (show (s6, m6) = _ from hy)
            subst s6 m6
            have hFF := hG.tr hF6
            have hKB := hX2.fb hFF
            have hfB := hFF.2.1.trans hX3
            have hkb := hkn.kb (by omega)
            have hPB : PI n ((advS b k (whenS (!decide (sx.1.1 = 3)) 1 sx)), mx, kx) := hPI
            refine v_aload_n C dX3_parse_49 rfl ?_
            refine v_ldcS C (i := 4) rfl rfl dX3_parse_50 ?_
            refine v_callVi C (c_X3_isWordN hl (i := 4) (by decide) hB) ym_X3_isWord ml_X3_54 emb_id_rS rfl rfl rfl rfl rfl dX3_parse_52 (Nat.le_of_ble_eq_true rfl) (Nat.le_of_ble_eq_true rfl) (Nat.le_of_ble_eq_true rfl) (Nat.le_of_ble_eq_true rfl) (fun _ _ hu => hu.elim) (fun r u hu => ?_)
            obtain ⟨rfl, hu⟩ := hu
            subst u
            refine v_if_eqB C 65 dX3_parse_55 (by decide) (fun c55 => ?_) (fun c55 => ?_)
            · refine v_aload_n C dX3_parse_65 rfl ?_
              refine v_ldcS C (i := 5) rfl rfl dX3_parse_66 ?_
              refine v_callVi C (c_X3_isWordN hl (i := 5) (by decide) hB) ym_X3_isWord ml_X3_54 emb_id_rS rfl rfl rfl rfl rfl dX3_parse_68 (Nat.le_of_ble_eq_true rfl) (Nat.le_of_ble_eq_true rfl) (Nat.le_of_ble_eq_true rfl) (Nat.le_of_ble_eq_true rfl) (fun _ _ hu => hu.elim) (fun r u hu => ?_)
              obtain ⟨rfl, hu⟩ := hu
              subst u
              refine v_if_eqB C 81 dX3_parse_71 (by decide) (fun c71 => ?_) (fun c71 => ?_)
              · refine v_aload_n C dX3_parse_81 rfl ?_
                refine v_ldcS C (i := 6) rfl rfl dX3_parse_82 ?_
                refine v_callVi C (c_X3_isWordN hl (i := 6) (by decide) hB) ym_X3_isWord ml_X3_54 emb_id_rS rfl rfl rfl rfl rfl dX3_parse_84 (Nat.le_of_ble_eq_true rfl) (Nat.le_of_ble_eq_true rfl) (Nat.le_of_ble_eq_true rfl) (Nat.le_of_ble_eq_true rfl) (fun _ _ hu => hu.elim) (fun r u hu => ?_)
                obtain ⟨rfl, hu⟩ := hu
                subst u
                refine v_if_eqB C 97 dX3_parse_87 (by decide) (fun c87 => ?_) (fun c87 => ?_)
                · refine v_aload_n C dX3_parse_97 rfl ?_
                  refine v_ldcS C (i := 7) rfl rfl dX3_parse_98 ?_
                  refine v_callVi C (c_X3_isWordN hl (i := 7) (by decide) hB) ym_X3_isWord ml_X3_54 emb_id_rS rfl rfl rfl rfl rfl dX3_parse_100 (Nat.le_of_ble_eq_true rfl) (Nat.le_of_ble_eq_true rfl) (Nat.le_of_ble_eq_true rfl) (Nat.le_of_ble_eq_true rfl) (fun _ _ hu => hu.elim) (fun r u hu => ?_)
                  obtain ⟨rfl, hu⟩ := hu
                  subst u
                  refine v_if_eqB C 113 dX3_parse_103 (by decide) (fun c103 => ?_) (fun c103 => ?_)
                  · refine v_aload_n C dX3_parse_113 rfl ?_
                    refine v_ldcS C (i := 8) rfl rfl dX3_parse_114 ?_
                    refine v_callVi C (c_X3_isWordN hl (i := 8) (by decide) hB) ym_X3_isWord ml_X3_54 emb_id_rS rfl rfl rfl rfl rfl dX3_parse_116 (Nat.le_of_ble_eq_true rfl) (Nat.le_of_ble_eq_true rfl) (Nat.le_of_ble_eq_true rfl) (Nat.le_of_ble_eq_true rfl) (fun _ _ hu => hu.elim) (fun r u hu => ?_)
                    obtain ⟨rfl, hu⟩ := hu
                    subst u
                    refine v_if_eqB C 130 dX3_parse_119 (by decide) (fun c119 => ?_) (fun c119 => ?_)
                    · refine v_aload_n C dX3_parse_130 rfl ?_
                      refine v_ldcS C (i := 9) rfl rfl dX3_parse_131 ?_
                      refine v_callVi C (c_X3_isWordN hl (i := 9) (by decide) hB) ym_X3_isWord ml_X3_54 emb_id_rS rfl rfl rfl rfl rfl dX3_parse_133 (Nat.le_of_ble_eq_true rfl) (Nat.le_of_ble_eq_true rfl) (Nat.le_of_ble_eq_true rfl) (Nat.le_of_ble_eq_true rfl) (fun _ _ hu => hu.elim) (fun r u hu => ?_)
                      obtain ⟨rfl, hu⟩ := hu
                      subst u
                      refine v_if_eqB C 147 dX3_parse_136 (by decide) (fun c136 => ?_) (fun c136 => ?_)
                      · have hS : lnStep b k n (sx, mx, kx) = (failS 1 (advS b k (whenS (!decide (sx.1.1 = 3)) 1 sx)), mx, kx) := by
                          unfold lnStep lnAny
                          rw [if_neg (by rw [c55]; exact Bool.false_ne_true), if_neg (by rw [c71]; exact Bool.false_ne_true), if_neg (by rw [c87]; exact Bool.false_ne_true), if_neg (by rw [c103]; exact Bool.false_ne_true), if_neg (by rw [c119]; exact Bool.false_ne_true), if_neg (by rw [c136]; exact Bool.false_ne_true)]
                        refine v_aload_n C dX3_parse_147 rfl ?_
                        refine v_iconst (v := nI 1) C dX3_parse_148 (by decide) ?_
                        refine v_callVv C (c_X3_fail hl (cd := 1) hB (by omega) (by omega)) ym_X3_fail ml_X3_46 emb_id_rS rfl rfl rfl rfl rfl dX3_parse_149 (Nat.le_of_ble_eq_true rfl) (Nat.le_of_ble_eq_true rfl) (Nat.le_of_ble_eq_true rfl) (Nat.le_of_ble_eq_true rfl) (fun _ _ hu => hu.elim) (fun r u hu => ?_)
                        rcases u with ⟨r7, s7, m7⟩
                        obtain ⟨hy, hY1, hF7⟩ := hu
                        obtain ⟨-, he2⟩ := Prod.mk.inj (show (s7, m7) = _ from hy)
                        subst m7
                        have hY2 := hKB.fb hF7
                        have hY3 := hF7.2.1.trans hfB
                        first | refine v_iinc1 C (lo2 := [some _, some _, some _]) dX3_parse_152 rfl rfl rfl ?_ | refine v_iinc C (lo2 := [some _, some _, some _]) dX3_parse_152 rfl rfl rfl rfl ?_
                        refine v_goto C 11 dX3_parse_155 (by decide) ?_
                        rw [hz, hS] at i3
                        have hkn := KN.step (b := b) (len := k) (n := n) (x := (sx, mx, kx)) hkn
                        have hPI := PI.step (b := b) (len := k) hPI
                        rw [hS] at hkn hPI
                        exact ih11 (i + 1, r7, s7, _) (by show 700 - (i + 1) < 700 - i; omega) ⟨by show i + 1 ≤ 700; omega, ⟨hY1, hY2, hY3, rfl⟩, i3, hPI, hkn⟩
                      · have hS : lnStep b k n (sx, mx, kx) = lnRule b k 4 ((advS b k (whenS (!decide (sx.1.1 = 3)) 1 sx)), mx, kx) := by
                          unfold lnStep lnAny
                          rw [if_neg (by rw [c55]; exact Bool.false_ne_true), if_neg (by rw [c71]; exact Bool.false_ne_true), if_neg (by rw [c87]; exact Bool.false_ne_true), if_neg (by rw [c103]; exact Bool.false_ne_true), if_neg (by rw [c119]; exact Bool.false_ne_true), if_pos c136]
                        refine v_aload_n C dX3_parse_139 rfl ?_
                        refine v_iconst (v := nI 4) C dX3_parse_140 (by decide) ?_
                        refine v_callVv C (c_X3_readRule hl (s := ss) (q := 4) hB hKB hfB (by decide)) ym_X3_readRule ml_X3_78 emb_id_rS rfl rfl rfl rfl rfl dX3_parse_141 (Nat.le_of_ble_eq_true rfl) (Nat.le_of_ble_eq_true rfl) (Nat.le_of_ble_eq_true rfl) (Nat.le_of_ble_eq_true rfl) (fun _ _ hu => hu.elim) (fun r u hu => ?_)
                        rcases u with ⟨r7, s7, m7⟩
                        obtain ⟨hY1, hY2, hY3, hY4⟩ := hu
                        have hY4 : m7 = _ := hY4
                        subst m7
                        refine v_goto C 152 dX3_parse_144 (by decide) ?_
                        first | refine v_iinc1 C (lo2 := [some _, some _, some _]) dX3_parse_152 rfl rfl rfl ?_ | refine v_iinc C (lo2 := [some _, some _, some _]) dX3_parse_152 rfl rfl rfl rfl ?_
                        refine v_goto C 11 dX3_parse_155 (by decide) ?_
                        rw [hz, hS] at i3
                        have hkn := KN.step (b := b) (len := k) (n := n) (x := (sx, mx, kx)) hkn
                        have hPI := PI.step (b := b) (len := k) hPI
                        rw [hS] at hkn hPI
                        exact ih11 (i + 1, r7, s7, _) (by show 700 - (i + 1) < 700 - i; omega) ⟨by show i + 1 ≤ 700; omega, ⟨hY1, hY2, hY3, rfl⟩, i3, hPI, hkn⟩
                    · have hS : lnStep b k n (sx, mx, kx) = lnRule b k 3 ((advS b k (whenS (!decide (sx.1.1 = 3)) 1 sx)), mx, kx) := by
                        unfold lnStep lnAny
                        rw [if_neg (by rw [c55]; exact Bool.false_ne_true), if_neg (by rw [c71]; exact Bool.false_ne_true), if_neg (by rw [c87]; exact Bool.false_ne_true), if_neg (by rw [c103]; exact Bool.false_ne_true), if_pos c119]
                      refine v_aload_n C dX3_parse_122 rfl ?_
                      refine v_iconst (v := nI 3) C dX3_parse_123 (by decide) ?_
                      refine v_callVv C (c_X3_readRule hl (s := ss) (q := 3) hB hKB hfB (by decide)) ym_X3_readRule ml_X3_78 emb_id_rS rfl rfl rfl rfl rfl dX3_parse_124 (Nat.le_of_ble_eq_true rfl) (Nat.le_of_ble_eq_true rfl) (Nat.le_of_ble_eq_true rfl) (Nat.le_of_ble_eq_true rfl) (fun _ _ hu => hu.elim) (fun r u hu => ?_)
                      rcases u with ⟨r7, s7, m7⟩
                      obtain ⟨hY1, hY2, hY3, hY4⟩ := hu
                      have hY4 : m7 = _ := hY4
                      subst m7
                      refine v_goto C 152 dX3_parse_127 (by decide) ?_
                      first | refine v_iinc1 C (lo2 := [some _, some _, some _]) dX3_parse_152 rfl rfl rfl ?_ | refine v_iinc C (lo2 := [some _, some _, some _]) dX3_parse_152 rfl rfl rfl rfl ?_
                      refine v_goto C 11 dX3_parse_155 (by decide) ?_
                      rw [hz, hS] at i3
                      have hkn := KN.step (b := b) (len := k) (n := n) (x := (sx, mx, kx)) hkn
                      have hPI := PI.step (b := b) (len := k) hPI
                      rw [hS] at hkn hPI
                      exact ih11 (i + 1, r7, s7, _) (by show 700 - (i + 1) < 700 - i; omega) ⟨by show i + 1 ≤ 700; omega, ⟨hY1, hY2, hY3, rfl⟩, i3, hPI, hkn⟩
                  · have hS : lnStep b k n (sx, mx, kx) = lnFill b k n ((advS b k (whenS (!decide (sx.1.1 = 3)) 1 sx)), mx, kx) := by
                      unfold lnStep lnAny
                      rw [if_neg (by rw [c55]; exact Bool.false_ne_true), if_neg (by rw [c71]; exact Bool.false_ne_true), if_neg (by rw [c87]; exact Bool.false_ne_true), if_pos c103]
                    refine v_aload_n C dX3_parse_106 rfl ?_
                    refine v_callVv C (c_X3_readFill hl (s := ss) (n := n) hB hKB hfB hkb hPB) ym_X3_readFill ml_X3_73 emb_id_rS rfl rfl rfl rfl rfl dX3_parse_107 (Nat.le_of_ble_eq_true rfl) (Nat.le_of_ble_eq_true rfl) (Nat.le_of_ble_eq_true rfl) (Nat.le_of_ble_eq_true rfl) (fun _ _ hu => hu.elim) (fun r u hu => ?_)
                    rcases u with ⟨r7, s7, m7⟩
                    obtain ⟨hY1, hY2, hY3, hY4⟩ := hu
                    have hY4 : m7 = _ := hY4
                    subst m7
                    refine v_goto C 152 dX3_parse_110 (by decide) ?_
                    first | refine v_iinc1 C (lo2 := [some _, some _, some _]) dX3_parse_152 rfl rfl rfl ?_ | refine v_iinc C (lo2 := [some _, some _, some _]) dX3_parse_152 rfl rfl rfl rfl ?_
                    refine v_goto C 11 dX3_parse_155 (by decide) ?_
                    rw [hz, hS] at i3
                    have hkn := KN.step (b := b) (len := k) (n := n) (x := (sx, mx, kx)) hkn
                    have hPI := PI.step (b := b) (len := k) hPI
                    rw [hS] at hkn hPI
                    exact ih11 (i + 1, r7, s7, _) (by show 700 - (i + 1) < 700 - i; omega) ⟨by show i + 1 ≤ 700; omega, ⟨hY1, hY2, hY3, rfl⟩, i3, hPI, hkn⟩
                · have hS : lnStep b k n (sx, mx, kx) = lnCopy b k n ((advS b k (whenS (!decide (sx.1.1 = 3)) 1 sx)), mx, kx) := by
                    unfold lnStep lnAny
                    rw [if_neg (by rw [c55]; exact Bool.false_ne_true), if_neg (by rw [c71]; exact Bool.false_ne_true), if_pos c87]
                  refine v_aload_n C dX3_parse_90 rfl ?_
                  refine v_callVv C (c_X3_readCopy hl (s := ss) (n := n) hB hKB hfB hkb hPB) ym_X3_readCopy ml_X3_68 emb_id_rS rfl rfl rfl rfl rfl dX3_parse_91 (Nat.le_of_ble_eq_true rfl) (Nat.le_of_ble_eq_true rfl) (Nat.le_of_ble_eq_true rfl) (Nat.le_of_ble_eq_true rfl) (fun _ _ hu => hu.elim) (fun r u hu => ?_)
                  rcases u with ⟨r7, s7, m7⟩
                  obtain ⟨hY1, hY2, hY3, hY4⟩ := hu
                  have hY4 : m7 = _ := hY4
                  subst m7
                  refine v_goto C 152 dX3_parse_94 (by decide) ?_
                  first | refine v_iinc1 C (lo2 := [some _, some _, some _]) dX3_parse_152 rfl rfl rfl ?_ | refine v_iinc C (lo2 := [some _, some _, some _]) dX3_parse_152 rfl rfl rfl rfl ?_
                  refine v_goto C 11 dX3_parse_155 (by decide) ?_
                  rw [hz, hS] at i3
                  have hkn := KN.step (b := b) (len := k) (n := n) (x := (sx, mx, kx)) hkn
                  have hPI := PI.step (b := b) (len := k) hPI
                  rw [hS] at hkn hPI
                  exact ih11 (i + 1, r7, s7, _) (by show 700 - (i + 1) < 700 - i; omega) ⟨by show i + 1 ≤ 700; omega, ⟨hY1, hY2, hY3, rfl⟩, i3, hPI, hkn⟩
              · have hS : lnStep b k n (sx, mx, kx) = lnLock b k n ((advS b k (whenS (!decide (sx.1.1 = 3)) 1 sx)), mx, kx) := by
                  unfold lnStep lnAny
                  rw [if_neg (by rw [c55]; exact Bool.false_ne_true), if_pos c71]
                refine v_aload_n C dX3_parse_74 rfl ?_
                refine v_callVv C (c_X3_readLock hl (s := ss) (n := n) hB hKB hfB hkb hPB) ym_X3_readLock ml_X3_63 emb_id_rS rfl rfl rfl rfl rfl dX3_parse_75 (Nat.le_of_ble_eq_true rfl) (Nat.le_of_ble_eq_true rfl) (Nat.le_of_ble_eq_true rfl) (Nat.le_of_ble_eq_true rfl) (fun _ _ hu => hu.elim) (fun r u hu => ?_)
                rcases u with ⟨r7, s7, m7⟩
                obtain ⟨hY1, hY2, hY3, hY4⟩ := hu
                have hY4 : m7 = _ := hY4
                subst m7
                refine v_goto C 152 dX3_parse_78 (by decide) ?_
                first | refine v_iinc1 C (lo2 := [some _, some _, some _]) dX3_parse_152 rfl rfl rfl ?_ | refine v_iinc C (lo2 := [some _, some _, some _]) dX3_parse_152 rfl rfl rfl rfl ?_
                refine v_goto C 11 dX3_parse_155 (by decide) ?_
                rw [hz, hS] at i3
                have hkn := KN.step (b := b) (len := k) (n := n) (x := (sx, mx, kx)) hkn
                have hPI := PI.step (b := b) (len := k) hPI
                rw [hS] at hkn hPI
                exact ih11 (i + 1, r7, s7, _) (by show 700 - (i + 1) < 700 - i; omega) ⟨by show i + 1 ≤ 700; omega, ⟨hY1, hY2, hY3, rfl⟩, i3, hPI, hkn⟩
            · have hS : lnStep b k n (sx, mx, kx) = lnPut b k n ((advS b k (whenS (!decide (sx.1.1 = 3)) 1 sx)), mx, kx) := by
                unfold lnStep lnAny
                rw [if_pos c55]
              refine v_aload_n C dX3_parse_58 rfl ?_
              refine v_callVv C (c_X3_readPut hl (s := ss) (n := n) hB hKB hfB hkb hPB) ym_X3_readPut ml_X3_58 emb_id_rS rfl rfl rfl rfl rfl dX3_parse_59 (Nat.le_of_ble_eq_true rfl) (Nat.le_of_ble_eq_true rfl) (Nat.le_of_ble_eq_true rfl) (Nat.le_of_ble_eq_true rfl) (fun _ _ hu => hu.elim) (fun r u hu => ?_)
              rcases u with ⟨r7, s7, m7⟩
              obtain ⟨hY1, hY2, hY3, hY4⟩ := hu
              have hY4 : m7 = _ := hY4
              subst m7
              refine v_goto C 152 dX3_parse_62 (by decide) ?_
              first | refine v_iinc1 C (lo2 := [some _, some _, some _]) dX3_parse_152 rfl rfl rfl ?_ | refine v_iinc C (lo2 := [some _, some _, some _]) dX3_parse_152 rfl rfl rfl rfl ?_
              refine v_goto C 11 dX3_parse_155 (by decide) ?_
              rw [hz, hS] at i3
              have hkn := KN.step (b := b) (len := k) (n := n) (x := (sx, mx, kx)) hkn
              have hPI := PI.step (b := b) (len := k) hPI
              rw [hS] at hkn hPI
              exact ih11 (i + 1, r7, s7, _) (by show 700 - (i + 1) < 700 - i; omega) ⟨by show i + 1 ≤ 700; omega, ⟨hY1, hY2, hY3, rfl⟩, i3, hPI, hkn⟩
          first | refine v_icmp_eqN C 45 dX3_parse_37 (by decide) (by omega) (by omega) (fun c37 => ?_) (fun c37 => ?_) | refine v_icmp_eq C 45 dX3_parse_37 (by decide) (fun c37 => ?_) (fun c37 => ?_)
          · have hA : RS b k (whenS (!decide (sx.1.1 = 3)) 1 sx) rr := by
              rw [whenS_f (by rw [decide_eq_true c37]; rfl)]
              exact hX1
            have hG := FB.rf (r := rr)
            exact J45 _ hA hG
          · refine v_aload_n C dX3_parse_40 rfl ?_
            refine v_iconst (v := nI 1) C dX3_parse_41 (by decide) ?_
            refine v_callVv C (c_X3_fail hl (cd := 1) hX1 (by omega) (by omega)) ym_X3_fail ml_X3_46 emb_id_rS rfl rfl rfl rfl rfl dX3_parse_42 (Nat.le_of_ble_eq_true rfl) (Nat.le_of_ble_eq_true rfl) (Nat.le_of_ble_eq_true rfl) (Nat.le_of_ble_eq_true rfl) (fun _ _ hu => hu.elim) (fun r u hu => ?_)
            rcases u with ⟨r5, s5, m5⟩
            obtain ⟨hy, hR5, hF5⟩ := hu
            obtain ⟨he1, he2⟩ := Prod.mk.inj (show (s5, m5) = _ from hy)
            subst s5 m5
            have hA : RS b k (whenS (!decide (sx.1.1 = 3)) 1 sx) r5 := by
              rw [whenS_t (by rw [decide_eq_false c37]; rfl)]
              exact hR5
            have hG := hF5
            exact J45 _ hA hG
  exact L11 (0, r3, s3, (advS b k (hd4 b k).1, hdM b k (clrM (m 7)), (0, 0, 0, 0))) ⟨Nat.zero_le _, ⟨hX1, hX2, hX3, rfl⟩, by have e : n = _ := hnn; rw [e]; rfl, by have e : n = _ := hnn; rw [e]; exact PI.hd _, ⟨Nat.le_refl _, Nat.le_refl _, Nat.le_refl _, Nat.le_refl _⟩⟩
