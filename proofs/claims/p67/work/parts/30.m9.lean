def EqH {α : Type} (a b : α) : Prop := a = b
theorem RXP_lock {b : Nat → Int32} {len n p1 p2 : Nat} {st : St} {m : Mg} {k : Cnt} {fl : Int32} {u : Rg} (e1 : EqH p1 (lok1 b len n st k).2) (e2 : EqH p2 (lok2 b len n st k).2) (h1 : RS b len (advS b len (lok2 b len n st k).1) u.1) (h2 : KC (k.1, k.2.1 + 1, k.2.2) u.1) (h3 : u.1 0 2 = fl) (h4 : u.2.2 = if ok (lok2 b len n st k).1 = true then lockM p1 p2 m else m) : RXP b len (lnLock b len n (st, m, k)) fl u := by
  have e1 : p1 = _ := e1
  have e2 : p2 = _ := e2
  subst e1 e2
  unfold RXP lnLock
  dsimp only
  exact ⟨h1, h2, h3, h4⟩
theorem RXP_copy {b : Nat → Int32} {len n p1 p2 p3 : Nat} {st : St} {m : Mg} {k : Cnt} {fl : Int32} {u : Rg} (e1 : EqH p1 (cop1 b len n st k).2) (e2 : EqH p2 (cop2 b len n st k).2) (e3 : EqH p3 (cop3 b len n st k).2) (h1 : RS b len (advS b len (cop4 b len n st m k)) u.1) (h2 : KC (k.1, k.2.1, k.2.2.1 + 1, k.2.2.2) u.1) (h3 : u.1 0 2 = fl) (h4 : u.2.2 = if ok (cop4 b len n st m k) = true then copyM n p1 p2 p3 m else m) : RXP b len (lnCopy b len n (st, m, k)) fl u := by
  have e1 : p1 = _ := e1
  have e2 : p2 = _ := e2
  have e3 : p3 = _ := e3
  subst e1 e2 e3
  unfold RXP lnCopy
  dsimp only
  exact ⟨h1, h2, h3, h4⟩
theorem RXP_fill {b : Nat → Int32} {len n p1 p2 p3 : Nat} {st : St} {m : Mg} {k : Cnt} {fl : Int32} {u : Rg} (e1 : EqH p1 (fil1 b len n st k).2) (e2 : EqH p2 (fil2 b len n st k).2) (e3 : EqH p3 (fil3 b len n st k).2) (h1 : RS b len (advS b len (fil4 b len n st m k)) u.1) (h2 : KC (k.1, k.2.1, k.2.2.1, k.2.2.2 + 1) u.1) (h3 : u.1 0 2 = fl) (h4 : u.2.2 = if ok (fil4 b len n st m k) = true then (fillM n p1 p2 (nI p3) m).2 else m) : RXP b len (lnFill b len n (st, m, k)) fl u := by
  have e1 : p1 = _ := e1
  have e2 : p2 = _ := e2
  have e3 : p3 = _ := e3
  subst e1 e2 e3
  unfold RXP lnFill
  dsimp only
  exact ⟨h1, h2, h3, h4⟩
theorem RXP_rule {b : Nat → Int32} {len q : Nat} {st : St} {m : Mg} {k : Cnt} {fl : Int32} {u : Rg} (h1 : RS b len (advS b len (whenS (m 5 q == nI 1) 3 st)) u.1) (h2 : KC k u.1) (h3 : u.1 0 2 = fl) (h4 : u.2.2 = setM m q (nI 1)) : RXP b len (lnRule b len q (st, m, k)) fl u := by
  unfold RXP lnRule
  dsimp only
  exact ⟨h1, h2, h3, h4⟩
theorem cop4_f {b : Nat → Int32} {len n p1 p2 p3 : Nat} {st : St} {m : Mg} {k : Cnt} (e1 : EqH p1 (cop1 b len n st k).2) (e2 : EqH p2 (cop2 b len n st k).2) (e3 : EqH p3 (cop3 b len n st k).2) (c : refM m n (nI p1) (nI p2) (nI p3) = 0) : cop4 b len n st m k = (cop3 b len n st k).1 := by
  have e1 : p1 = _ := e1
  have e2 : p2 = _ := e2
  have e3 : p3 = _ := e3
  subst e1 e2 e3
  unfold cop4
  rw [whenS_f (by rw [c]; rfl)]
theorem cop4_t {b : Nat → Int32} {len n p1 p2 p3 : Nat} {st : St} {m : Mg} {k : Cnt} (e1 : EqH p1 (cop1 b len n st k).2) (e2 : EqH p2 (cop2 b len n st k).2) (e3 : EqH p3 (cop3 b len n st k).2) (c : ¬ refM m n (nI p1) (nI p2) (nI p3) = 0) : cop4 b len n st m k = failS 3 (cop3 b len n st k).1 := by
  have e1 : p1 = _ := e1
  have e2 : p2 = _ := e2
  have e3 : p3 = _ := e3
  subst e1 e2 e3
  unfold cop4
  rw [whenS_t (by rw [beq_eq_false_iff_ne.mpr c]; rfl)]
theorem cop4_z {b : Nat → Int32} {len n p1 p2 p3 : Nat} {st : St} {m : Mg} {k : Cnt} (e1 : EqH p1 (cop1 b len n st k).2) (e2 : EqH p2 (cop2 b len n st k).2) (e3 : EqH p3 (cop3 b len n st k).2) (h : ok (cop4 b len n st m k) = true) : refM m n (nI p1) (nI p2) (nI p3) = 0 := by
  have e1 : p1 = _ := e1
  have e2 : p2 = _ := e2
  have e3 : p3 = _ := e3
  subst e1 e2 e3
  exact (cop4_ok h).1
theorem fil4_f {b : Nat → Int32} {len n p1 p2 : Nat} {st : St} {m : Mg} {k : Cnt} (e1 : EqH p1 (fil1 b len n st k).2) (e2 : EqH p2 (fil2 b len n st k).2) (c : anyG (lockB m) p1 (p2 + 1 - p1) = false) : fil4 b len n st m k = (fil3 b len n st k).1 := by
  have e1 : p1 = _ := e1
  have e2 : p2 = _ := e2
  subst e1 e2
  unfold fil4
  rw [whenS_f c]
theorem fil4_t {b : Nat → Int32} {len n p1 p2 : Nat} {st : St} {m : Mg} {k : Cnt} (e1 : EqH p1 (fil1 b len n st k).2) (e2 : EqH p2 (fil2 b len n st k).2) (c : anyG (lockB m) p1 (p2 + 1 - p1) = true) : fil4 b len n st m k = failS 3 (fil3 b len n st k).1 := by
  have e1 : p1 = _ := e1
  have e2 : p2 = _ := e2
  subst e1 e2
  unfold fil4
  rw [whenS_t c]
theorem numS_h {b : Nat → Int32} {len lo hi p : Nat} {st : St} (h : lo ≤ hi) (e : EqH p (numS b len lo hi st).2) : lo ≤ p ∧ p ≤ hi := by
  have e : p = _ := e
  subst e
  exact numS_rng h
theorem iteT {p : Bool} {a c : Mg} (h : p = true) : (if p = true then a else c) = a := if_pos h
theorem iteF {p : Bool} {a c : Mg} (h : p = false) : (if p = true then a else c) = c := if_neg (by rw [h]; exact Bool.false_ne_true)
theorem wd_get {i : Nat} (h : i < 20) : ∃ q, SS[i]? = some q ∧ q.2.2.2 = wd i := by
  have hl : i < SS.length := Nat.lt_of_lt_of_le h (by decide)
  exact ⟨SS[i], List.getElem?_eq_getElem hl, wd_q (List.getElem?_eq_getElem hl)⟩
theorem c_X3_isWordN {l : Launch} (hl : l.stackTraces = false) {κ : Kp} {h : Nat → Nat} {r : G} {y : Eg} {len i : Nat} {b : Nat → Int32} {st : St} (hi : i < 20) (hR : RS b len st r) : Ct SS MM l κ yX3_isWord cX3_isWord 3 (some FieldType.boolean) 4 0 0 [.ref (h 0), .ref (κ.2.2.1 i)] (rS κ h) (r, y) ri (fun r2 u => r2 = bI (isW b (wd i) st.1) ∧ u = (r, y)) (fun _ _ => False) := by
  obtain ⟨q, hq, e⟩ := wd_get hi
  rw [← e]
  exact c_X3_isWord hl hq hR
theorem c_X3_readNamedN {l : Launch} (hl : l.stackTraces = false) {κ : Kp} {h : Nat → Nat} {r : G} {y : Eg} {lo hi i : Nat} {len : Nat} {b : Nat → Int32} {st : St} (hi20 : i < 20) (hR : RA b len st r) (hlo : lo ≤ 1000) (hhi : hi ≤ 1000) : Ct SS MM l κ yX3_readNamed cX3_readNamed 4 (some FieldType.int) 5 0 0 [.ref (h 0), .ref (κ.2.2.1 i), .int (nI lo), .int (nI hi)] (rS κ h) (r, y) ri (fun v u => v = nI (namS b len (wd i) lo hi st).2 ∧ u.2 = y ∧ RS b len (namS b len (wd i) lo hi st).1 u.1 ∧ FB r u.1) (fun _ _ => False) := by
  obtain ⟨q, hq, e⟩ := wd_get hi20
  rw [← e]
  exact c_X3_readNamed hl hq hR hlo hhi
set_option maxHeartbeats 16000000 in
theorem c_X3_readLock {l : Launch} (hl : l.stackTraces = false) {κ : Kp} {h : Nat → Nat} {r s : G} {m : Mg} {n len : Nat} {b : Nat → Int32} {st : St} {k : Cnt} {fl : Int32} (hR : RS b len st r) (hK : KC k r) (hf : r 0 2 = fl) (hkb : KB k) (hI : PI n (st, m, k)) : Ct SS MM l κ yX3_readLock cX3_readLock 3 none 4 0 0 [.ref (h 0)] (rS κ h) (r, s, m) rv (fun _ u => RXP b len (lnLock b len n (st, m, k)) fl u) (fun _ _ => False) := by
  refine Ct.of (own := RX3) (by decide) rfl hl (by intro v hv; simp only [List.mem_cons, List.not_mem_nil, or_false] at hv; first | (rcases hv with rfl | rfl | rfl | rfl | rfl | rfl <;> rfl) | (rcases hv with rfl | rfl | rfl | rfl | rfl <;> rfl) | (rcases hv with rfl | rfl | rfl | rfl <;> rfl) | (rcases hv with rfl | rfl | rfl <;> rfl) | (rcases hv with rfl | rfl <;> rfl) | (subst hv; rfl) | exact hv.elim) (Nat.le_of_ble_eq_true rfl) (fun X hxl hxk C F N => ?_)
  subst hxl hxk
  show V X (rS (xK X) h) 0 [some (.ref (h 0)), none, none] [] (r, s, m) 0 0
  obtain ⟨co, hMI, hco1, hco2⟩ := id hI
  have hn : m 0 7 = nI n := hMI.1.1
  have h96 : n ≤ 96 := hMI.1.2.1
  have hn1 := hMI.2.2.2.1
  obtain ⟨kb1, kb2, kb3, kb4⟩ := hkb
  obtain ⟨w, lim, pol, hw0, hw1, hw2, hlim, hlim96, hpol, hpol3⟩ := hMI.2.2.2.2.1
  refine v_aload_n C dX3_readLock_0 rfl ?_
  refine v_dup C dX3_readLock_1 rfl ?_
  refine v_getiQ (x := nI k.2.1) C fl_X3_98 oi_rS_0_11 (hK.2.1) dX3_readLock_2 ?_
  refine v_iconst (v := nI 1) C dX3_readLock_5 (by decide) ?_
  first | refine v_iaddN C dX3_readLock_6 ?_ | refine v_iadd C dX3_readLock_6 ?_
  refine v_puti C fl_X3_98 fw_X3_11 oi_rS_0_11 ⟨rfl, rfl⟩ dX3_readLock_7 ?_
  obtain ⟨r0, hr0⟩ : ∃ r0, r0 = sG r 0 (upd (r 0) 11 (nI (k.2.1 + 1))) := ⟨_, rfl⟩
  refine V.stt (g2 := (r0, s, m)) (by rw [hr0]) ?_
  have hR0 : RS b len st r0 := by
    rw [hr0]
    exact hR.cnt (by omega)
  have hK0 : KC (k.1, k.2.1 + 1, k.2.2) r0 := by
    rw [hr0]
    exact ⟨hK.1, rfl, hK.2.2.1, hK.2.2.2⟩
  have hf0 : r0 0 2 = fl := by
    rw [hr0]
    exact hf
  refine v_aload_n C dX3_readLock_10 rfl ?_
  refine v_getiQ (x := nI (k.2.1 + 1)) C fl_X3_98 oi_rS_0_11 (hK0.2.1) dX3_readLock_11 ?_
  refine v_bipush (v := nI 6) C dX3_readLock_14 (by decide) ?_
  have J24 : ∀ r1 : G, RS b len (whenS (decide (6 < k.2.1 + 1)) 4 st) r1 → FB r0 r1 → V X (rS (xK X) h) 24 [some (.ref (h 0)), none, none] [] (r1, s, m) 0 0 := by
    intro r1 hW hF
    refine v_aload_n C dX3_readLock_24 rfl ?_
    refine v_iconst (v := nI 0) C dX3_readLock_25 (by decide) ?_
    refine v_callVi C (c_X3_readPlace hl (n := n) (lo := 0) hW.ra (by omega) hn hn1 h96) ym_X3_readPlace ml_X3_139 emb_id_rS rfl rfl rfl rfl rfl dX3_readLock_26 (Nat.le_of_ble_eq_true rfl) (Nat.le_of_ble_eq_true rfl) (Nat.le_of_ble_eq_true rfl) (Nat.le_of_ble_eq_true rfl) (fun _ _ hu => hu.elim) (fun r u hu => ?_)
    rcases u with ⟨r2, s2, m2⟩
    obtain ⟨rfl, hy, hR2, hF2⟩ := hu
    obtain ⟨he1, he2⟩ := Prod.mk.inj (show (s2, m2) = _ from hy)
    subst s2 m2
    have hR2 : RS b len (lok1 b len n st k).1 r2 := hR2
    show V X _ _ _ (Value.int (nI (lok1 b len n st k).2) :: _) _ _ _
    obtain ⟨p1, hp1⟩ : ∃ x, EqH x (lok1 b len n st k).2 := ⟨_, rfl⟩
    have hp1e : (lok1 b len n st k).2 = p1 := Eq.symm hp1
    rw [hp1e]
    clear hp1e
    have rg1 := (numS_h (Nat.zero_le _) hp1).2
    refine v_istore_n C (lo2 := [some _, some _, none]) dX3_readLock_29 rfl (Nat.le_of_ble_eq_true rfl) rfl ?_
    refine v_aload_n C dX3_readLock_30 rfl ?_
    refine v_iload_n C dX3_readLock_31 rfl ?_
    refine v_callVi C (c_X3_readPlace hl (n := n) (lo := p1) hR2.ra (by omega) hn hn1 h96) ym_X3_readPlace ml_X3_139 emb_id_rS rfl rfl rfl rfl rfl dX3_readLock_32 (Nat.le_of_ble_eq_true rfl) (Nat.le_of_ble_eq_true rfl) (Nat.le_of_ble_eq_true rfl) (Nat.le_of_ble_eq_true rfl) (fun _ _ hu => hu.elim) (fun r u hu => ?_)
    rcases u with ⟨r3, s3, m3⟩
    obtain ⟨rfl, hy, hR3, hF3⟩ := hu
    obtain ⟨he1, he2⟩ := Prod.mk.inj (show (s3, m3) = _ from hy)
    subst s3 m3
    have hp1e : p1 = (lok1 b len n st k).2 := hp1
    have hR3 : RS b len (lok2 b len n st k).1 r3 := by
      rw [hp1e] at hR3
      exact hR3
    obtain ⟨p2, hp2, hp2e⟩ : ∃ x, EqH x (lok2 b len n st k).2 ∧ EqH (numS b len p1 (n - 1) (lok1 b len n st k).1).2 x := ⟨_, rfl, by rw [hp1e]; rfl⟩
    clear hp1e
    have hp2f : (numS b len p1 (n - 1) (lok1 b len n st k).1).2 = p2 := hp2e
    rw [hp2f]
    clear hp2f
    have rg2 := numS_h (p := p2) rg1 (Eq.symm hp2e)
    clear hp2e
    refine v_istore_n C (lo2 := [some _, some _, some _]) dX3_readLock_35 rfl (Nat.le_of_ble_eq_true rfl) rfl ?_
    refine v_aload_n C dX3_readLock_36 rfl ?_
    refine v_getiQ (x := nI (lok2 b len n st k).1.2.1) C fl_X3_40 oi_rS_0_3 (hR3.2.2.2.1.2.2.1) dX3_readLock_37 ?_
    refine v_if_ne C 53 dX3_readLock_40 (by decide) (fun c40 => ?_) (fun c40 => ?_)
    · have hM := iteF (a := lockM p1 p2 m) (c := m) (ok_n c40).1
      refine v_aload_n C dX3_readLock_53 rfl ?_
      refine v_callVv C (c_X3_advance hl hR3.ra) ym_X3_advance ml_X3_49 emb_id_rS rfl rfl rfl rfl rfl dX3_readLock_54 (Nat.le_of_ble_eq_true rfl) (Nat.le_of_ble_eq_true rfl) (Nat.le_of_ble_eq_true rfl) (Nat.le_of_ble_eq_true rfl) (fun _ _ hu => hu.elim) (fun r u hu => ?_)
      rcases u with ⟨r4, s4, m4⟩
      obtain ⟨hy, hR4, hF4⟩ := hu
      obtain ⟨he1, he2⟩ := Prod.mk.inj (show (s4, m4) = _ from hy)
      subst s4 m4
      refine v_vret C F dX3_readLock_57 (Nat.le_of_ble_eq_true rfl) (Nat.le_of_ble_eq_true rfl) ?_
      have hFF := ((hF.tr hF2).tr hF3).tr hF4
      exact RXP_lock hp1 hp2 hR4 (hK0.fb hFF) (hFF.2.1.trans hf0) hM.symm
    · have hz := (ok_z hR3.2.2.2.1.1 c40).1
      have hM := iteT (a := lockM p1 p2 m) (c := m) hz
      refine v_aload_n C dX3_readLock_43 rfl ?_
      refine v_getr C fl_X3_12 or_rS_0_0 dX3_readLock_44 ?_
      refine v_iload_n C dX3_readLock_47 rfl ?_
      refine v_iload_n C dX3_readLock_48 rfl ?_
      refine v_callVi C (c_X0_lockRow hl (s := s) (m := m) (n := n) (a := p1) (b := p2) hMI.1 hMI.2.1 rg2.1 (by omega)) ym_X0_lockRow ml_X3_153 emb_r_e rfl rfl rfl rfl rfl dX3_readLock_49 (Nat.le_of_ble_eq_true rfl) (Nat.le_of_ble_eq_true rfl) (Nat.le_of_ble_eq_true rfl) (Nat.le_of_ble_eq_true rfl) (fun _ _ hu => hu.elim) (fun r u hu => ?_)
      obtain ⟨rfl, hu⟩ := hu
      subst u
      refine V.stt (g2 := (r3, s, lockM p1 p2 m)) (rfl) ?_
      refine v_pop C dX3_readLock_52 rfl ?_
      refine v_aload_n C dX3_readLock_53 rfl ?_
      refine v_callVv C (c_X3_advance hl hR3.ra) ym_X3_advance ml_X3_49 emb_id_rS rfl rfl rfl rfl rfl dX3_readLock_54 (Nat.le_of_ble_eq_true rfl) (Nat.le_of_ble_eq_true rfl) (Nat.le_of_ble_eq_true rfl) (Nat.le_of_ble_eq_true rfl) (fun _ _ hu => hu.elim) (fun r u hu => ?_)
      rcases u with ⟨r4, s4, m4⟩
      obtain ⟨hy, hR4, hF4⟩ := hu
      obtain ⟨he1, he2⟩ := Prod.mk.inj (show (s4, m4) = _ from hy)
      subst s4 m4
      refine v_vret C F dX3_readLock_57 (Nat.le_of_ble_eq_true rfl) (Nat.le_of_ble_eq_true rfl) ?_
      have hFF := ((hF.tr hF2).tr hF3).tr hF4
      exact RXP_lock hp1 hp2 hR4 (hK0.fb hFF) (hFF.2.1.trans hf0) hM.symm
  first | refine v_icmp_leN C 24 dX3_readLock_16 (by decide) (by omega) (by omega) (fun c16 => ?_) (fun c16 => ?_) | refine v_icmp_le C 24 dX3_readLock_16 (by decide) (fun c16 => ?_) (fun c16 => ?_)
  · have hW : RS b len (whenS (decide (6 < k.2.1 + 1)) 4 st) r0 := by
      rw [whenS_f (by simp; omega)]
      exact hR0
    have hF := FB.rf (r := r0)
    exact J24 _ hW hF
  · refine v_aload_n C dX3_readLock_19 rfl ?_
    refine v_iconst (v := nI 4) C dX3_readLock_20 (by decide) ?_
    refine v_callVv C (c_X3_fail hl (cd := 4) hR0 (by omega) (by omega)) ym_X3_fail ml_X3_46 emb_id_rS rfl rfl rfl rfl rfl dX3_readLock_21 (Nat.le_of_ble_eq_true rfl) (Nat.le_of_ble_eq_true rfl) (Nat.le_of_ble_eq_true rfl) (Nat.le_of_ble_eq_true rfl) (fun _ _ hu => hu.elim) (fun r u hu => ?_)
    rcases u with ⟨r1, s1, m1⟩
    obtain ⟨hy, hR1, hF1⟩ := hu
    obtain ⟨he1, he2⟩ := Prod.mk.inj (show (s1, m1) = _ from hy)
    subst s1 m1
    have hW : RS b len (whenS (decide (6 < k.2.1 + 1)) 4 st) r1 := by
      rw [whenS_t (by simp; omega)]
      exact hR1
    have hF := hF1
    exact J24 _ hW hF
set_option maxHeartbeats 16000000 in
theorem c_X3_readCopy {l : Launch} (hl : l.stackTraces = false) {κ : Kp} {h : Nat → Nat} {r s : G} {m : Mg} {n len : Nat} {b : Nat → Int32} {st : St} {k : Cnt} {fl : Int32} (hR : RS b len st r) (hK : KC k r) (hf : r 0 2 = fl) (hkb : KB k) (hI : PI n (st, m, k)) : Ct SS MM l κ yX3_readCopy cX3_readCopy 4 none 4 0 0 [.ref (h 0)] (rS κ h) (r, s, m) rv (fun _ u => RXP b len (lnCopy b len n (st, m, k)) fl u) (fun _ _ => False) := by
  refine Ct.of (own := RX3) (by decide) rfl hl (by intro v hv; simp only [List.mem_cons, List.not_mem_nil, or_false] at hv; first | (rcases hv with rfl | rfl | rfl | rfl | rfl | rfl <;> rfl) | (rcases hv with rfl | rfl | rfl | rfl | rfl <;> rfl) | (rcases hv with rfl | rfl | rfl | rfl <;> rfl) | (rcases hv with rfl | rfl | rfl <;> rfl) | (rcases hv with rfl | rfl <;> rfl) | (subst hv; rfl) | exact hv.elim) (Nat.le_of_ble_eq_true rfl) (fun X hxl hxk C F N => ?_)
  subst hxl hxk
  show V X (rS (xK X) h) 0 [some (.ref (h 0)), none, none, none] [] (r, s, m) 0 0
  obtain ⟨co, hMI, hco1, hco2⟩ := id hI
  have hn : m 0 7 = nI n := hMI.1.1
  have h96 : n ≤ 96 := hMI.1.2.1
  have hn1 := hMI.2.2.2.1
  obtain ⟨kb1, kb2, kb3, kb4⟩ := hkb
  obtain ⟨w, lim, pol, hw0, hw1, hw2, hlim, hlim96, hpol, hpol3⟩ := hMI.2.2.2.2.1
  refine v_aload_n C dX3_readCopy_0 rfl ?_
  refine v_dup C dX3_readCopy_1 rfl ?_
  refine v_getiQ (x := nI k.2.2.1) C fl_X3_101 oi_rS_0_12 (hK.2.2.1) dX3_readCopy_2 ?_
  refine v_iconst (v := nI 1) C dX3_readCopy_5 (by decide) ?_
  first | refine v_iaddN C dX3_readCopy_6 ?_ | refine v_iadd C dX3_readCopy_6 ?_
  refine v_puti C fl_X3_101 fw_X3_12 oi_rS_0_12 ⟨rfl, rfl⟩ dX3_readCopy_7 ?_
  obtain ⟨r0, hr0⟩ : ∃ r0, r0 = sG r 0 (upd (r 0) 12 (nI (k.2.2.1 + 1))) := ⟨_, rfl⟩
  refine V.stt (g2 := (r0, s, m)) (by rw [hr0]) ?_
  have hR0 : RS b len st r0 := by
    rw [hr0]
    exact hR.cnt (by omega)
  have hK0 : KC (k.1, k.2.1, k.2.2.1 + 1, k.2.2.2) r0 := by
    rw [hr0]
    exact ⟨hK.1, hK.2.1, rfl, hK.2.2.2⟩
  have hf0 : r0 0 2 = fl := by
    rw [hr0]
    exact hf
  refine v_aload_n C dX3_readCopy_10 rfl ?_
  refine v_getiQ (x := nI (k.2.2.1 + 1)) C fl_X3_101 oi_rS_0_12 (hK0.2.2.1) dX3_readCopy_11 ?_
  refine v_bipush (v := nI 20) C dX3_readCopy_14 (by decide) ?_
  have J24 : ∀ r1 : G, RS b len (whenS (decide (20 < k.2.2.1 + 1)) 4 st) r1 → FB r0 r1 → V X (rS (xK X) h) 24 [some (.ref (h 0)), none, none, none] [] (r1, s, m) 0 0 := by
    intro r1 hW hF
    refine v_aload_n C dX3_readCopy_24 rfl ?_
    refine v_iconst (v := nI 0) C dX3_readCopy_25 (by decide) ?_
    refine v_callVi C (c_X3_readPlace hl (n := n) (lo := 0) hW.ra (by omega) hn hn1 h96) ym_X3_readPlace ml_X3_139 emb_id_rS rfl rfl rfl rfl rfl dX3_readCopy_26 (Nat.le_of_ble_eq_true rfl) (Nat.le_of_ble_eq_true rfl) (Nat.le_of_ble_eq_true rfl) (Nat.le_of_ble_eq_true rfl) (fun _ _ hu => hu.elim) (fun r u hu => ?_)
    rcases u with ⟨r2, s2, m2⟩
    obtain ⟨rfl, hy, hR2, hF2⟩ := hu
    obtain ⟨he1, he2⟩ := Prod.mk.inj (show (s2, m2) = _ from hy)
    subst s2 m2
    have hR2 : RS b len (cop1 b len n st k).1 r2 := hR2
    show V X _ _ _ (Value.int (nI (cop1 b len n st k).2) :: _) _ _ _
    obtain ⟨p1, hp1⟩ : ∃ x, EqH x (cop1 b len n st k).2 := ⟨_, rfl⟩
    have hp1e : (cop1 b len n st k).2 = p1 := Eq.symm hp1
    rw [hp1e]
    clear hp1e
    have rg1 := (numS_h (Nat.zero_le _) hp1).2
    refine v_istore_n C (lo2 := [some _, some _, none, none]) dX3_readCopy_29 rfl (Nat.le_of_ble_eq_true rfl) rfl ?_
    refine v_aload_n C dX3_readCopy_30 rfl ?_
    refine v_iconst (v := nI 0) C dX3_readCopy_31 (by decide) ?_
    refine v_callVi C (c_X3_readPlace hl (n := n) (lo := 0) hR2.ra (by omega) hn hn1 h96) ym_X3_readPlace ml_X3_139 emb_id_rS rfl rfl rfl rfl rfl dX3_readCopy_32 (Nat.le_of_ble_eq_true rfl) (Nat.le_of_ble_eq_true rfl) (Nat.le_of_ble_eq_true rfl) (Nat.le_of_ble_eq_true rfl) (fun _ _ hu => hu.elim) (fun r u hu => ?_)
    rcases u with ⟨r3, s3, m3⟩
    obtain ⟨rfl, hy, hR3, hF3⟩ := hu
    obtain ⟨he1, he2⟩ := Prod.mk.inj (show (s3, m3) = _ from hy)
    subst s3 m3
    have hR3 : RS b len (cop2 b len n st k).1 r3 := hR3
    show V X _ _ _ (Value.int (nI (cop2 b len n st k).2) :: _) _ _ _
    obtain ⟨p2, hp2⟩ : ∃ x, EqH x (cop2 b len n st k).2 := ⟨_, rfl⟩
    have hp2e : (cop2 b len n st k).2 = p2 := Eq.symm hp2
    rw [hp2e]
    clear hp2e
    have rg2 := (numS_h (Nat.zero_le _) hp2).2
    refine v_istore_n C (lo2 := [some _, some _, some _, none]) dX3_readCopy_35 rfl (Nat.le_of_ble_eq_true rfl) rfl ?_
    refine v_aload_n C dX3_readCopy_36 rfl ?_
    refine v_iconst (v := nI 1) C dX3_readCopy_37 (by decide) ?_
    refine v_aload_n C dX3_readCopy_38 rfl ?_
    refine v_getr C fl_X3_12 or_rS_0_0 dX3_readCopy_39 ?_
    refine v_getr C fl_X3_107 or_rS_1_0 dX3_readCopy_42 ?_
    refine v_getiQ (x := nI n) C fl_X3_121 oi_rS_5_7 (hn) dX3_readCopy_45 ?_
    refine v_callVi C (c_X3_readNumber hl (lo := 1) (hi := n) hR3.ra (by omega) (by omega)) ym_X3_readNumber ml_X3_133 emb_id_rS rfl rfl rfl rfl rfl dX3_readCopy_48 (Nat.le_of_ble_eq_true rfl) (Nat.le_of_ble_eq_true rfl) (Nat.le_of_ble_eq_true rfl) (Nat.le_of_ble_eq_true rfl) (fun _ _ hu => hu.elim) (fun r u hu => ?_)
    rcases u with ⟨r4, s4, m4⟩
    obtain ⟨rfl, hy, hR4, hF4⟩ := hu
    obtain ⟨he1, he2⟩ := Prod.mk.inj (show (s4, m4) = _ from hy)
    subst s4 m4
    have hR4 : RS b len (cop3 b len n st k).1 r4 := hR4
    show V X _ _ _ (Value.int (nI (cop3 b len n st k).2) :: _) _ _ _
    obtain ⟨p3, hp3⟩ : ∃ x, EqH x (cop3 b len n st k).2 := ⟨_, rfl⟩
    have hp3e : (cop3 b len n st k).2 = p3 := Eq.symm hp3
    rw [hp3e]
    clear hp3e
    have rg3 := (numS_h hn1 hp3).2
    refine v_istore_n C (lo2 := [some _, some _, some _, some _]) dX3_readCopy_51 rfl (Nat.le_of_ble_eq_true rfl) rfl ?_
    refine v_aload_n C dX3_readCopy_52 rfl ?_
    refine v_getr C fl_X3_12 or_rS_0_0 dX3_readCopy_53 ?_
    refine v_getr C fl_X3_107 or_rS_1_0 dX3_readCopy_56 ?_
    refine v_iload_n C dX3_readCopy_59 rfl ?_
    refine v_iload_n C dX3_readCopy_60 rfl ?_
    refine v_iload_n C dX3_readCopy_61 rfl ?_
    refine v_callVi C (c_X2_refusalOf hl (g := m) (n := n) (fr := nI p1) (to_ := nI p2) (len := nI p3) hn h96) ym_X2_refusalOf ml_X3_156 emb_r_m rfl rfl rfl rfl rfl dX3_readCopy_62 (Nat.le_of_ble_eq_true rfl) (Nat.le_of_ble_eq_true rfl) (Nat.le_of_ble_eq_true rfl) (Nat.le_of_ble_eq_true rfl) (fun _ _ hu => hu.elim) (fun r u hu => ?_)
    obtain ⟨rfl, hu⟩ := hu
    subst u
    refine V.stt (g2 := (r4, s, m)) (rfl) ?_
    have J73 : ∀ r5 : G, RS b len (cop4 b len n st m k) r5 → FB r0 r5 → V X (rS (xK X) h) 73 [some (.ref (h 0)), some (.int (nI p1)), some (.int (nI p2)), some (.int (nI p3))] [] (r5, s, m) 0 0 := by
      intro r5 hW4 hFF
      refine v_aload_n C dX3_readCopy_73 rfl ?_
      refine v_getiQ (x := nI (cop4 b len n st m k).2.1) C fl_X3_40 oi_rS_0_3 (hW4.2.2.2.1.2.2.1) dX3_readCopy_74 ?_
      refine v_if_ne C 91 dX3_readCopy_77 (by decide) (fun c77 => ?_) (fun c77 => ?_)
      · have hM := iteF (a := copyM n p1 p2 p3 m) (c := m) (ok_n c77).1
        refine v_aload_n C dX3_readCopy_91 rfl ?_
        refine v_callVv C (c_X3_advance hl hW4.ra) ym_X3_advance ml_X3_49 emb_id_rS rfl rfl rfl rfl rfl dX3_readCopy_92 (Nat.le_of_ble_eq_true rfl) (Nat.le_of_ble_eq_true rfl) (Nat.le_of_ble_eq_true rfl) (Nat.le_of_ble_eq_true rfl) (fun _ _ hu => hu.elim) (fun r u hu => ?_)
        rcases u with ⟨r6, s6, m6⟩
        obtain ⟨hy, hR6, hF6⟩ := hu
        obtain ⟨he1, he2⟩ := Prod.mk.inj (show (s6, m6) = _ from hy)
        subst s6 m6
        refine v_vret C F dX3_readCopy_95 (Nat.le_of_ble_eq_true rfl) (Nat.le_of_ble_eq_true rfl) ?_
        have hFG := hFF.tr hF6
        exact RXP_copy hp1 hp2 hp3 hR6 (hK0.fb hFG) (hFG.2.1.trans hf0) hM.symm
      · have hz := (ok_z hW4.2.2.2.1.1 c77).1
        have hM := iteT (a := copyM n p1 p2 p3 m) (c := m) hz
        obtain ⟨a1, a2, a3⟩ := refM_z hn h96 ⟨rg1, rg2, rg3⟩ (cop4_z hp1 hp2 hp3 hz)
        refine v_aload_n C dX3_readCopy_80 rfl ?_
        refine v_getr C fl_X3_12 or_rS_0_0 dX3_readCopy_81 ?_
        refine v_iload_n C dX3_readCopy_84 rfl ?_
        refine v_iload_n C dX3_readCopy_85 rfl ?_
        refine v_iload_n C dX3_readCopy_86 rfl ?_
        refine v_callVi C (c_X0_makeCopy hl (s := s) (m := m) (n := n) (f := p1) (t := p2) (ln := p3) (lim := lim) hMI.1 hMI.2.1 hlim hlim96 a1 a2 a3) ym_X0_makeCopy ml_X3_160 emb_r_e rfl rfl rfl rfl rfl dX3_readCopy_87 (Nat.le_of_ble_eq_true rfl) (Nat.le_of_ble_eq_true rfl) (Nat.le_of_ble_eq_true rfl) (Nat.le_of_ble_eq_true rfl) (fun _ _ hu => hu.elim) (fun r u hu => ?_)
        obtain ⟨rfl, s2, hu⟩ := hu
        subst u
        refine V.stt (g2 := (_, s2, copyM n p1 p2 p3 m)) (rfl) ?_
        refine v_pop C dX3_readCopy_90 rfl ?_
        refine v_aload_n C dX3_readCopy_91 rfl ?_
        refine v_callVv C (c_X3_advance hl hW4.ra) ym_X3_advance ml_X3_49 emb_id_rS rfl rfl rfl rfl rfl dX3_readCopy_92 (Nat.le_of_ble_eq_true rfl) (Nat.le_of_ble_eq_true rfl) (Nat.le_of_ble_eq_true rfl) (Nat.le_of_ble_eq_true rfl) (fun _ _ hu => hu.elim) (fun r u hu => ?_)
        rcases u with ⟨r6, s6, m6⟩
        obtain ⟨hy, hR6, hF6⟩ := hu
        obtain ⟨he1, he2⟩ := Prod.mk.inj (show (s6, m6) = _ from hy)
        subst s6 m6
        refine v_vret C F dX3_readCopy_95 (Nat.le_of_ble_eq_true rfl) (Nat.le_of_ble_eq_true rfl) ?_
        have hFG := hFF.tr hF6
        exact RXP_copy hp1 hp2 hp3 hR6 (hK0.fb hFG) (hFG.2.1.trans hf0) hM.symm
    refine v_if_eq C 73 dX3_readCopy_65 (by decide) (fun c65 => ?_) (fun c65 => ?_)
    · have hW4 : RS b len (cop4 b len n st m k) r4 := by
        rw [cop4_f hp1 hp2 hp3 c65]
        exact hR4
      have hFF := (hF.tr hF2).tr (hF3.tr hF4)
      exact J73 _ hW4 hFF
    · refine v_aload_n C dX3_readCopy_68 rfl ?_
      refine v_iconst (v := nI 3) C dX3_readCopy_69 (by decide) ?_
      refine v_callVv C (c_X3_fail hl (cd := 3) hR4 (by omega) (by omega)) ym_X3_fail ml_X3_46 emb_id_rS rfl rfl rfl rfl rfl dX3_readCopy_70 (Nat.le_of_ble_eq_true rfl) (Nat.le_of_ble_eq_true rfl) (Nat.le_of_ble_eq_true rfl) (Nat.le_of_ble_eq_true rfl) (fun _ _ hu => hu.elim) (fun r u hu => ?_)
      rcases u with ⟨r5, s5, m5⟩
      obtain ⟨hy, hR5, hF5⟩ := hu
      obtain ⟨he1, he2⟩ := Prod.mk.inj (show (s5, m5) = _ from hy)
      subst s5 m5
      have hW4 : RS b len (cop4 b len n st m k) r5 := by
        rw [cop4_t hp1 hp2 hp3 c65]
        exact hR5
      have hFF := ((hF.tr hF2).tr (hF3.tr hF4)).tr hF5
      exact J73 _ hW4 hFF
  first | refine v_icmp_leN C 24 dX3_readCopy_16 (by decide) (by omega) (by omega) (fun c16 => ?_) (fun c16 => ?_) | refine v_icmp_le C 24 dX3_readCopy_16 (by decide) (fun c16 => ?_) (fun c16 => ?_)
  · have hW : RS b len (whenS (decide (20 < k.2.2.1 + 1)) 4 st) r0 := by
      rw [whenS_f (by simp; omega)]
      exact hR0
    have hF := FB.rf (r := r0)
    exact J24 _ hW hF
  · refine v_aload_n C dX3_readCopy_19 rfl ?_
    refine v_iconst (v := nI 4) C dX3_readCopy_20 (by decide) ?_
    refine v_callVv C (c_X3_fail hl (cd := 4) hR0 (by omega) (by omega)) ym_X3_fail ml_X3_46 emb_id_rS rfl rfl rfl rfl rfl dX3_readCopy_21 (Nat.le_of_ble_eq_true rfl) (Nat.le_of_ble_eq_true rfl) (Nat.le_of_ble_eq_true rfl) (Nat.le_of_ble_eq_true rfl) (fun _ _ hu => hu.elim) (fun r u hu => ?_)
    rcases u with ⟨r1, s1, m1⟩
    obtain ⟨hy, hR1, hF1⟩ := hu
    obtain ⟨he1, he2⟩ := Prod.mk.inj (show (s1, m1) = _ from hy)
    subst s1 m1
    have hW : RS b len (whenS (decide (20 < k.2.2.1 + 1)) 4 st) r1 := by
      rw [whenS_t (by simp; omega)]
      exact hR1
    have hF := hF1
    exact J24 _ hW hF
set_option maxHeartbeats 16000000 in
theorem c_X3_readFill {l : Launch} (hl : l.stackTraces = false) {κ : Kp} {h : Nat → Nat} {r s : G} {m : Mg} {n len : Nat} {b : Nat → Int32} {st : St} {k : Cnt} {fl : Int32} (hR : RS b len st r) (hK : KC k r) (hf : r 0 2 = fl) (hkb : KB k) (hI : PI n (st, m, k)) : Ct SS MM l κ yX3_readFill cX3_readFill 4 none 4 0 0 [.ref (h 0)] (rS κ h) (r, s, m) rv (fun _ u => RXP b len (lnFill b len n (st, m, k)) fl u) (fun _ _ => False) := by
  refine Ct.of (own := RX3) (by decide) rfl hl (by intro v hv; simp only [List.mem_cons, List.not_mem_nil, or_false] at hv; first | (rcases hv with rfl | rfl | rfl | rfl | rfl | rfl <;> rfl) | (rcases hv with rfl | rfl | rfl | rfl | rfl <;> rfl) | (rcases hv with rfl | rfl | rfl | rfl <;> rfl) | (rcases hv with rfl | rfl | rfl <;> rfl) | (rcases hv with rfl | rfl <;> rfl) | (subst hv; rfl) | exact hv.elim) (Nat.le_of_ble_eq_true rfl) (fun X hxl hxk C F N => ?_)
  subst hxl hxk
  show V X (rS (xK X) h) 0 [some (.ref (h 0)), none, none, none] [] (r, s, m) 0 0
  obtain ⟨co, hMI, hco1, hco2⟩ := id hI
  have hn : m 0 7 = nI n := hMI.1.1
  have h96 : n ≤ 96 := hMI.1.2.1
  have hn1 := hMI.2.2.2.1
  obtain ⟨kb1, kb2, kb3, kb4⟩ := hkb
  obtain ⟨w, lim, pol, hw0, hw1, hw2, hlim, hlim96, hpol, hpol3⟩ := hMI.2.2.2.2.1
  refine v_aload_n C dX3_readFill_0 rfl ?_
  refine v_dup C dX3_readFill_1 rfl ?_
  refine v_getiQ (x := nI k.2.2.2) C fl_X3_104 oi_rS_0_13 (hK.2.2.2) dX3_readFill_2 ?_
  refine v_iconst (v := nI 1) C dX3_readFill_5 (by decide) ?_
  first | refine v_iaddN C dX3_readFill_6 ?_ | refine v_iadd C dX3_readFill_6 ?_
  refine v_puti C fl_X3_104 fw_X3_13 oi_rS_0_13 ⟨rfl, rfl⟩ dX3_readFill_7 ?_
  obtain ⟨r0, hr0⟩ : ∃ r0, r0 = sG r 0 (upd (r 0) 13 (nI (k.2.2.2 + 1))) := ⟨_, rfl⟩
  refine V.stt (g2 := (r0, s, m)) (by rw [hr0]) ?_
  have hR0 : RS b len st r0 := by
    rw [hr0]
    exact hR.cnt (by omega)
  have hK0 : KC (k.1, k.2.1, k.2.2.1, k.2.2.2 + 1) r0 := by
    rw [hr0]
    exact ⟨hK.1, hK.2.1, hK.2.2.1, rfl⟩
  have hf0 : r0 0 2 = fl := by
    rw [hr0]
    exact hf
  refine v_aload_n C dX3_readFill_10 rfl ?_
  refine v_getiQ (x := nI (k.2.2.2 + 1)) C fl_X3_104 oi_rS_0_13 (hK0.2.2.2) dX3_readFill_11 ?_
  refine v_bipush (v := nI 6) C dX3_readFill_14 (by decide) ?_
  have J24 : ∀ r1 : G, RS b len (whenS (decide (6 < k.2.2.2 + 1)) 4 st) r1 → FB r0 r1 → V X (rS (xK X) h) 24 [some (.ref (h 0)), none, none, none] [] (r1, s, m) 0 0 := by
    intro r1 hW hF
    refine v_aload_n C dX3_readFill_24 rfl ?_
    refine v_iconst (v := nI 0) C dX3_readFill_25 (by decide) ?_
    refine v_callVi C (c_X3_readPlace hl (n := n) (lo := 0) hW.ra (by omega) hn hn1 h96) ym_X3_readPlace ml_X3_139 emb_id_rS rfl rfl rfl rfl rfl dX3_readFill_26 (Nat.le_of_ble_eq_true rfl) (Nat.le_of_ble_eq_true rfl) (Nat.le_of_ble_eq_true rfl) (Nat.le_of_ble_eq_true rfl) (fun _ _ hu => hu.elim) (fun r u hu => ?_)
    rcases u with ⟨r2, s2, m2⟩
    obtain ⟨rfl, hy, hR2, hF2⟩ := hu
    obtain ⟨he1, he2⟩ := Prod.mk.inj (show (s2, m2) = _ from hy)
    subst s2 m2
    have hR2 : RS b len (fil1 b len n st k).1 r2 := hR2
    show V X _ _ _ (Value.int (nI (fil1 b len n st k).2) :: _) _ _ _
    obtain ⟨p1, hp1⟩ : ∃ x, EqH x (fil1 b len n st k).2 := ⟨_, rfl⟩
    have hp1e : (fil1 b len n st k).2 = p1 := Eq.symm hp1
    rw [hp1e]
    clear hp1e
    have rg1 := (numS_h (Nat.zero_le _) hp1).2
    refine v_istore_n C (lo2 := [some _, some _, none, none]) dX3_readFill_29 rfl (Nat.le_of_ble_eq_true rfl) rfl ?_
    refine v_aload_n C dX3_readFill_30 rfl ?_
    refine v_iload_n C dX3_readFill_31 rfl ?_
    refine v_callVi C (c_X3_readPlace hl (n := n) (lo := p1) hR2.ra (by omega) hn hn1 h96) ym_X3_readPlace ml_X3_139 emb_id_rS rfl rfl rfl rfl rfl dX3_readFill_32 (Nat.le_of_ble_eq_true rfl) (Nat.le_of_ble_eq_true rfl) (Nat.le_of_ble_eq_true rfl) (Nat.le_of_ble_eq_true rfl) (fun _ _ hu => hu.elim) (fun r u hu => ?_)
    rcases u with ⟨r3, s3, m3⟩
    obtain ⟨rfl, hy, hR3, hF3⟩ := hu
    obtain ⟨he1, he2⟩ := Prod.mk.inj (show (s3, m3) = _ from hy)
    subst s3 m3
    have hp1e : p1 = (fil1 b len n st k).2 := hp1
    have hR3 : RS b len (fil2 b len n st k).1 r3 := by
      rw [hp1e] at hR3
      exact hR3
    obtain ⟨p2, hp2, hp2e⟩ : ∃ x, EqH x (fil2 b len n st k).2 ∧ EqH (numS b len p1 (n - 1) (fil1 b len n st k).1).2 x := ⟨_, rfl, by rw [hp1e]; rfl⟩
    clear hp1e
    have hp2f : (numS b len p1 (n - 1) (fil1 b len n st k).1).2 = p2 := hp2e
    rw [hp2f]
    clear hp2f
    have rg2 := numS_h (p := p2) rg1 (Eq.symm hp2e)
    clear hp2e
    refine v_istore_n C (lo2 := [some _, some _, some _, none]) dX3_readFill_35 rfl (Nat.le_of_ble_eq_true rfl) rfl ?_
    refine v_aload_n C dX3_readFill_36 rfl ?_
    refine v_iconst (v := nI 0) C dX3_readFill_37 (by decide) ?_
    refine v_sipush (v := nI 255) C dX3_readFill_38 (by decide) ?_
    refine v_callVi C (c_X3_readNumber hl (lo := 0) (hi := 255) hR3.ra (by omega) (by omega)) ym_X3_readNumber ml_X3_133 emb_id_rS rfl rfl rfl rfl rfl dX3_readFill_41 (Nat.le_of_ble_eq_true rfl) (Nat.le_of_ble_eq_true rfl) (Nat.le_of_ble_eq_true rfl) (Nat.le_of_ble_eq_true rfl) (fun _ _ hu => hu.elim) (fun r u hu => ?_)
    rcases u with ⟨r4, s4, m4⟩
    obtain ⟨rfl, hy, hR4, hF4⟩ := hu
    obtain ⟨he1, he2⟩ := Prod.mk.inj (show (s4, m4) = _ from hy)
    subst s4 m4
    have hR4 : RS b len (fil3 b len n st k).1 r4 := hR4
    show V X _ _ _ (Value.int (nI (fil3 b len n st k).2) :: _) _ _ _
    obtain ⟨p3, hp3⟩ : ∃ x, EqH x (fil3 b len n st k).2 := ⟨_, rfl⟩
    have hp3e : (fil3 b len n st k).2 = p3 := Eq.symm hp3
    rw [hp3e]
    clear hp3e
    refine v_istore_n C (lo2 := [some _, some _, some _, some _]) dX3_readFill_44 rfl (Nat.le_of_ble_eq_true rfl) rfl ?_
    refine v_aload_n C dX3_readFill_45 rfl ?_
    refine v_getr C fl_X3_12 or_rS_0_0 dX3_readFill_46 ?_
    refine v_getr C fl_X3_107 or_rS_1_0 dX3_readFill_49 ?_
    refine v_iload_n C dX3_readFill_52 rfl ?_
    refine v_iload_n C dX3_readFill_53 rfl ?_
    refine v_callVi C (c_X2_hasLockIn hl (g := m) (n := n) (a := p1) (b := p2) hn h96 (by omega) (by omega)) ym_X2_hasLockIn ml_X3_163 emb_r_m rfl rfl rfl rfl rfl dX3_readFill_54 (Nat.le_of_ble_eq_true rfl) (Nat.le_of_ble_eq_true rfl) (Nat.le_of_ble_eq_true rfl) (Nat.le_of_ble_eq_true rfl) (fun _ _ hu => hu.elim) (fun r u hu => ?_)
    obtain ⟨rfl, hu⟩ := hu
    subst u
    refine V.stt (g2 := (r4, s, m)) (rfl) ?_
    have J65 : ∀ r5 : G, RS b len (fil4 b len n st m k) r5 → FB r0 r5 → V X (rS (xK X) h) 65 [some (.ref (h 0)), some (.int (nI p1)), some (.int (nI p2)), some (.int (nI p3))] [] (r5, s, m) 0 0 := by
      intro r5 hW4 hFF
      refine v_aload_n C dX3_readFill_65 rfl ?_
      refine v_getiQ (x := nI (fil4 b len n st m k).2.1) C fl_X3_40 oi_rS_0_3 (hW4.2.2.2.1.2.2.1) dX3_readFill_66 ?_
      refine v_if_ne C 83 dX3_readFill_69 (by decide) (fun c69 => ?_) (fun c69 => ?_)
      · have hM := iteF (a := (fillM n p1 p2 (nI p3) m).2) (c := m) (ok_n c69).1
        refine v_aload_n C dX3_readFill_83 rfl ?_
        refine v_callVv C (c_X3_advance hl hW4.ra) ym_X3_advance ml_X3_49 emb_id_rS rfl rfl rfl rfl rfl dX3_readFill_84 (Nat.le_of_ble_eq_true rfl) (Nat.le_of_ble_eq_true rfl) (Nat.le_of_ble_eq_true rfl) (Nat.le_of_ble_eq_true rfl) (fun _ _ hu => hu.elim) (fun r u hu => ?_)
        rcases u with ⟨r6, s6, m6⟩
        obtain ⟨hy, hR6, hF6⟩ := hu
        obtain ⟨he1, he2⟩ := Prod.mk.inj (show (s6, m6) = _ from hy)
        subst s6 m6
        refine v_vret C F dX3_readFill_87 (Nat.le_of_ble_eq_true rfl) (Nat.le_of_ble_eq_true rfl) ?_
        have hFG := hFF.tr hF6
        exact RXP_fill hp1 hp2 hp3 hR6 (hK0.fb hFG) (hFG.2.1.trans hf0) hM.symm
      · have hz := (ok_z hW4.2.2.2.1.1 c69).1
        have hM := iteT (a := (fillM n p1 p2 (nI p3) m).2) (c := m) hz
        refine v_aload_n C dX3_readFill_72 rfl ?_
        refine v_getr C fl_X3_12 or_rS_0_0 dX3_readFill_73 ?_
        refine v_iload_n C dX3_readFill_76 rfl ?_
        refine v_iload_n C dX3_readFill_77 rfl ?_
        refine v_iload_n C dX3_readFill_78 rfl ?_
        refine v_callVi C (c_X0_fillRow hl (s := s) (m := m) (n := n) (a := p1) (b := p2) (v := nI p3) hMI.1 hMI.2.1 rg2.1 (by omega)) ym_X0_fillRow ml_X3_167 emb_r_e rfl rfl rfl rfl rfl dX3_readFill_79 (Nat.le_of_ble_eq_true rfl) (Nat.le_of_ble_eq_true rfl) (Nat.le_of_ble_eq_true rfl) (Nat.le_of_ble_eq_true rfl) (fun _ _ hu => hu.elim) (fun r u hu => ?_)
        obtain ⟨rfl, s2, hu⟩ := hu
        subst u
        refine V.stt (g2 := (_, s2, (fillM n p1 p2 (nI p3) m).2)) (rfl) ?_
        refine v_pop C dX3_readFill_82 rfl ?_
        refine v_aload_n C dX3_readFill_83 rfl ?_
        refine v_callVv C (c_X3_advance hl hW4.ra) ym_X3_advance ml_X3_49 emb_id_rS rfl rfl rfl rfl rfl dX3_readFill_84 (Nat.le_of_ble_eq_true rfl) (Nat.le_of_ble_eq_true rfl) (Nat.le_of_ble_eq_true rfl) (Nat.le_of_ble_eq_true rfl) (fun _ _ hu => hu.elim) (fun r u hu => ?_)
        rcases u with ⟨r6, s6, m6⟩
        obtain ⟨hy, hR6, hF6⟩ := hu
        obtain ⟨he1, he2⟩ := Prod.mk.inj (show (s6, m6) = _ from hy)
        subst s6 m6
        refine v_vret C F dX3_readFill_87 (Nat.le_of_ble_eq_true rfl) (Nat.le_of_ble_eq_true rfl) ?_
        have hFG := hFF.tr hF6
        exact RXP_fill hp1 hp2 hp3 hR6 (hK0.fb hFG) (hFG.2.1.trans hf0) hM.symm
    refine v_if_eqB C 65 dX3_readFill_57 (by decide) (fun c57 => ?_) (fun c57 => ?_)
    · have hW4 : RS b len (fil4 b len n st m k) r4 := by
        rw [fil4_f hp1 hp2 c57]
        exact hR4
      have hFF := (hF.tr hF2).tr (hF3.tr hF4)
      exact J65 _ hW4 hFF
    · refine v_aload_n C dX3_readFill_60 rfl ?_
      refine v_iconst (v := nI 3) C dX3_readFill_61 (by decide) ?_
      refine v_callVv C (c_X3_fail hl (cd := 3) hR4 (by omega) (by omega)) ym_X3_fail ml_X3_46 emb_id_rS rfl rfl rfl rfl rfl dX3_readFill_62 (Nat.le_of_ble_eq_true rfl) (Nat.le_of_ble_eq_true rfl) (Nat.le_of_ble_eq_true rfl) (Nat.le_of_ble_eq_true rfl) (fun _ _ hu => hu.elim) (fun r u hu => ?_)
      rcases u with ⟨r5, s5, m5⟩
      obtain ⟨hy, hR5, hF5⟩ := hu
      obtain ⟨he1, he2⟩ := Prod.mk.inj (show (s5, m5) = _ from hy)
      subst s5 m5
      have hW4 : RS b len (fil4 b len n st m k) r5 := by
        rw [fil4_t hp1 hp2 c57]
        exact hR5
      have hFF := ((hF.tr hF2).tr (hF3.tr hF4)).tr hF5
      exact J65 _ hW4 hFF
  first | refine v_icmp_leN C 24 dX3_readFill_16 (by decide) (by omega) (by omega) (fun c16 => ?_) (fun c16 => ?_) | refine v_icmp_le C 24 dX3_readFill_16 (by decide) (fun c16 => ?_) (fun c16 => ?_)
  · have hW : RS b len (whenS (decide (6 < k.2.2.2 + 1)) 4 st) r0 := by
      rw [whenS_f (by simp; omega)]
      exact hR0
    have hF := FB.rf (r := r0)
    exact J24 _ hW hF
  · refine v_aload_n C dX3_readFill_19 rfl ?_
    refine v_iconst (v := nI 4) C dX3_readFill_20 (by decide) ?_
    refine v_callVv C (c_X3_fail hl (cd := 4) hR0 (by omega) (by omega)) ym_X3_fail ml_X3_46 emb_id_rS rfl rfl rfl rfl rfl dX3_readFill_21 (Nat.le_of_ble_eq_true rfl) (Nat.le_of_ble_eq_true rfl) (Nat.le_of_ble_eq_true rfl) (Nat.le_of_ble_eq_true rfl) (fun _ _ hu => hu.elim) (fun r u hu => ?_)
    rcases u with ⟨r1, s1, m1⟩
    obtain ⟨hy, hR1, hF1⟩ := hu
    obtain ⟨he1, he2⟩ := Prod.mk.inj (show (s1, m1) = _ from hy)
    subst s1 m1
    have hW : RS b len (whenS (decide (6 < k.2.2.2 + 1)) 4 st) r1 := by
      rw [whenS_t (by simp; omega)]
      exact hR1
    have hF := hF1
    exact J24 _ hW hF
set_option maxHeartbeats 16000000 in
theorem c_X3_readRule {l : Launch} (hl : l.stackTraces = false) {κ : Kp} {h : Nat → Nat} {r s : G} {m : Mg} {len q : Nat} {b : Nat → Int32} {st : St} {k : Cnt} {fl : Int32} (hR : RS b len st r) (hK : KC k r) (hf : r 0 2 = fl) (hq : q < 5) : Ct SS MM l κ yX3_readRule cX3_readRule 2 none 2 0 0 [.ref (h 0), .int (nI q)] (rS κ h) (r, s, m) rv (fun _ u => RXP b len (lnRule b len q (st, m, k)) fl u) (fun _ _ => False) := by
  refine Ct.of (own := RX3) (by decide) rfl hl (by intro v hv; simp only [List.mem_cons, List.not_mem_nil, or_false] at hv; first | (rcases hv with rfl | rfl | rfl | rfl | rfl | rfl <;> rfl) | (rcases hv with rfl | rfl | rfl | rfl | rfl <;> rfl) | (rcases hv with rfl | rfl | rfl | rfl <;> rfl) | (rcases hv with rfl | rfl | rfl <;> rfl) | (rcases hv with rfl | rfl <;> rfl) | (subst hv; rfl) | exact hv.elim) (Nat.le_of_ble_eq_true rfl) (fun X hxl hxk C F N => ?_)
  subst hxl hxk
  show V X (rS (xK X) h) 0 [some (.ref (h 0)), some (.int (nI q))] [] (r, s, m) 0 0
  refine v_aload_n C dX3_readRule_0 rfl ?_
  refine v_getr C fl_X3_12 or_rS_0_0 dX3_readRule_1 ?_
  refine v_getr C fl_X3_107 or_rS_1_0 dX3_readRule_4 ?_
  refine v_getr C fl_X3_124 or_rS_5_4 dX3_readRule_7 ?_
  refine v_iload_n C dX3_readRule_10 rfl ?_
  refine v_ialdQ (x := m 5 q) C ar_rS_10 (by decide) _ (rfl) ?_ rfl dX3_readRule_11 ?_
  · omega
  refine v_iconst (v := nI 1) C dX3_readRule_12 (by decide) ?_
  refine v_icmp_ne C 21 dX3_readRule_13 (by decide) (fun c13 => ?_) (fun c13 => ?_)
  · have hW : RS b len (whenS (m 5 q == nI 1) 3 st) r := by
      rw [whenS_f (beq_eq_false_iff_ne.mpr c13)]
      exact hR
    have hF := FB.rf (r := r)
    refine v_aload_n C dX3_readRule_21 rfl ?_
    refine v_getr C fl_X3_12 or_rS_0_0 dX3_readRule_22 ?_
    refine v_getr C fl_X3_107 or_rS_1_0 dX3_readRule_25 ?_
    refine v_getr C fl_X3_124 or_rS_5_4 dX3_readRule_28 ?_
    refine v_iload_n C dX3_readRule_31 rfl ?_
    refine v_iconst (v := nI 1) C dX3_readRule_32 (by decide) ?_
    refine v_iast C ar_rS_10 (by decide) _ ?_ rfl dX3_readRule_33 ?_
    · omega
    refine V.stt (g2 := (_, s, setM m q (nI 1))) (rfl) ?_
    refine v_aload_n C dX3_readRule_34 rfl ?_
    refine v_callVv C (c_X3_advance hl hW.ra) ym_X3_advance ml_X3_49 emb_id_rS rfl rfl rfl rfl rfl dX3_readRule_35 (Nat.le_of_ble_eq_true rfl) (Nat.le_of_ble_eq_true rfl) (Nat.le_of_ble_eq_true rfl) (Nat.le_of_ble_eq_true rfl) (fun _ _ hu => hu.elim) (fun r u hu => ?_)
    rcases u with ⟨r2, s2, m2⟩
    obtain ⟨hy, hR2, hF2⟩ := hu
    obtain ⟨he1, he2⟩ := Prod.mk.inj (show (s2, m2) = _ from hy)
    subst s2 m2
    refine v_vret C F dX3_readRule_38 (Nat.le_of_ble_eq_true rfl) (Nat.le_of_ble_eq_true rfl) ?_
    have hFG := hF.tr hF2
    exact RXP_rule hR2 (hK.fb hFG) (hFG.2.1.trans hf) rfl
  · refine v_aload_n C dX3_readRule_16 rfl ?_
    refine v_iconst (v := nI 3) C dX3_readRule_17 (by decide) ?_
    refine v_callVv C (c_X3_fail hl (cd := 3) hR (by omega) (by omega)) ym_X3_fail ml_X3_46 emb_id_rS rfl rfl rfl rfl rfl dX3_readRule_18 (Nat.le_of_ble_eq_true rfl) (Nat.le_of_ble_eq_true rfl) (Nat.le_of_ble_eq_true rfl) (Nat.le_of_ble_eq_true rfl) (fun _ _ hu => hu.elim) (fun r u hu => ?_)
    rcases u with ⟨r1, s1, m1⟩
    obtain ⟨hy, hR1, hF1⟩ := hu
    obtain ⟨he1, he2⟩ := Prod.mk.inj (show (s1, m1) = _ from hy)
    subst s1 m1
    have hW : RS b len (whenS (m 5 q == nI 1) 3 st) r1 := by
      rw [whenS_t (beq_iff_eq.mpr c13)]
      exact hR1
    have hF := hF1
    refine v_aload_n C dX3_readRule_21 rfl ?_
    refine v_getr C fl_X3_12 or_rS_0_0 dX3_readRule_22 ?_
    refine v_getr C fl_X3_107 or_rS_1_0 dX3_readRule_25 ?_
    refine v_getr C fl_X3_124 or_rS_5_4 dX3_readRule_28 ?_
    refine v_iload_n C dX3_readRule_31 rfl ?_
    refine v_iconst (v := nI 1) C dX3_readRule_32 (by decide) ?_
    refine v_iast C ar_rS_10 (by decide) _ ?_ rfl dX3_readRule_33 ?_
    · omega
    refine V.stt (g2 := (_, s, setM m q (nI 1))) (rfl) ?_
    refine v_aload_n C dX3_readRule_34 rfl ?_
    refine v_callVv C (c_X3_advance hl hW.ra) ym_X3_advance ml_X3_49 emb_id_rS rfl rfl rfl rfl rfl dX3_readRule_35 (Nat.le_of_ble_eq_true rfl) (Nat.le_of_ble_eq_true rfl) (Nat.le_of_ble_eq_true rfl) (Nat.le_of_ble_eq_true rfl) (fun _ _ hu => hu.elim) (fun r u hu => ?_)
    rcases u with ⟨r2, s2, m2⟩
    obtain ⟨hy, hR2, hF2⟩ := hu
    obtain ⟨he1, he2⟩ := Prod.mk.inj (show (s2, m2) = _ from hy)
    subst s2 m2
    refine v_vret C F dX3_readRule_38 (Nat.le_of_ble_eq_true rfl) (Nat.le_of_ble_eq_true rfl) ?_
    have hFG := hF.tr hF2
    exact RXP_rule hR2 (hK.fb hFG) (hFG.2.1.trans hf) rfl
