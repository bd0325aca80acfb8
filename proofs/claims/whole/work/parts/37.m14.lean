/-! the reference's methods -/
def tg (g : G) (k : Nat) : G := sG g 0 (upd (g 0) 0 (nI k))
theorem upd_upd {f : Nat → Int32} {j : Nat} {x y : Int32} : upd (upd f j x) j y = upd f j y := by
  funext i
  unfold upd
  by_cases e : i = j
  · rw [if_pos e, if_pos e]
  · rw [if_neg e, if_neg e, if_neg e]
theorem tg_tg {g : G} {a b : Nat} : tg (tg g a) b = tg g b := by
  unfold tg
  rw [show sG g 0 (upd (g 0) 0 (nI a)) 0 = upd (g 0) 0 (nI a) from rfl, upd_upd, sG_sG]
theorem sG_at {g : G} {k : Nat} {f : Nat → Int32} : sG g k f k = f := by
  unfold sG
  rw [if_pos rfl]
def fl (b : Bool) : Nat := if b then 1 else 0
def nzB (k : Nat) : Bool := !(k == 0)
theorem nz_f {k : Nat} (h : nzB k = false) : k = 0 := by simpa [nzB] using h
theorem nz_t {k : Nat} (h : nzB k = true) : ¬ k = 0 := by simpa [nzB] using h
theorem cd_0 {b : Bool} {k : Nat} {t : List (Bool × Nat)} (hk : ¬ k = 0) (h : cdL ((b, k) :: t) = 0) : b = false ∧ cdL t = 0 := by
  cases b
  · exact ⟨rfl, h⟩
  · exact absurd h hk
theorem in_row {a b i : Nat} (h : i < 2 ^ 31) : inB (nI i) (a : Int) (b : Int) = rowT a b i := by
  unfold inB rowT
  rw [nI_toInt h]
  by_cases h1 : a ≤ i
  · rw [decide_eq_true (show (a : Int) ≤ (i : Int) by omega), Bool.true_and]
    by_cases h2 : i ≤ b
    · rw [decide_eq_true (show (i : Int) ≤ (b : Int) by omega), decide_eq_true ⟨h1, h2⟩]
    · rw [decide_eq_false (show ¬ (i : Int) ≤ (b : Int) by omega), decide_eq_false (fun z => h2 z.2)]
  · rw [decide_eq_false (show ¬ (a : Int) ≤ (i : Int) by omega), Bool.false_and, decide_eq_false (fun z => h1 z.1)]
theorem in_src {y : Mg} {n a b i : Nat} (hI : IM y n) (hi : i < n) : inB (y 2 i) (a : Int) (b : Int) = (owb y i && rowT a b (src y i)) := by
  rcases src_nI hI hi with ⟨h1, h2, h3⟩ | ⟨h1, h2⟩
  · have := hI.2.1
    rw [h1, Bool.true_and, h2, in_row (by omega)]
  · rw [h1, Bool.false_and, h2]
    unfold inB
    rw [m1_toInt, decide_eq_false (show ¬ (a : Int) ≤ -1 by omega)]
    rfl
theorem runM_end {m : Mg} {n : Nat} : ∀ (f j : Nat), n ≤ j → runM m n f j = 0
  | 0, _, _ => rfl
  | f + 1, j, h => by
    show (if decide (j < n) && contM m j then 1 + runM m n f (j + 1) else 0) = 0
    rw [decide_eq_false (show ¬ j < n by omega), Bool.false_and]
    rfl
theorem nI_dec {a : Nat} (h : 0 < a) : nI a + Int32.ofInt (-1) = nI (a - 1) := by
  rw [show Int32.ofInt (-1) = -(nI 1) by decide, ← Int32.sub_eq_add_neg]
  exact nI_sub h
set_option maxHeartbeats 16000000 in
theorem c_X6_in {l : Launch} (hl : l.stackTraces = false) {κ : Kp} {v x y : Int32} {a b : Int} (hx : x.toInt = a) (hy : y.toInt = b) : Ct SS MM l κ yX6_in cX6_in 3 (some FieldType.boolean) 0 0 0 [.int v, .int x, .int y] nS () ri (fun r _ => r = bI (inB v a b)) (fun _ _ => False) := by
  refine Ct.of (own := RX6) (by decide) rfl hl (by intro v hv; simp only [List.mem_cons, List.not_mem_nil, or_false] at hv; first | (rcases hv with rfl | rfl | rfl | rfl | rfl | rfl <;> rfl) | (rcases hv with rfl | rfl | rfl | rfl | rfl <;> rfl) | (rcases hv with rfl | rfl | rfl | rfl <;> rfl) | (rcases hv with rfl | rfl | rfl <;> rfl) | (rcases hv with rfl | rfl <;> rfl) | (subst hv; rfl) | exact hv.elim) (Nat.le_of_ble_eq_true rfl) (fun X hxl hxk C F N => ?_)
  subst hxl hxk
  show V X nS 0 [some (.int v), some (.int x), some (.int y)] [] () 0 0
  subst hx hy
  refine v_iload_n C dX6_in_0 rfl ?_
  refine v_iload_n C dX6_in_1 rfl ?_
  refine v_icmp_lt C 14 dX6_in_2 (by decide) (fun c2 => ?_) (fun c2 => ?_)
  · refine v_iconst (v := nI 0) C dX6_in_14 (by decide) ?_
    refine v_iret C F (by first | rfl | exact bI_nar _) dX6_in_15 (Nat.le_of_ble_eq_true rfl) (Nat.le_of_ble_eq_true rfl) ?_
    first
    | exact bI_t (inB_mk (by omega) (by omega))
    | exact bI_f (inB_no (by omega))
  · refine v_iload_n C dX6_in_5 rfl ?_
    refine v_iload_n C dX6_in_6 rfl ?_
    refine v_icmp_gt C 14 dX6_in_7 (by decide) (fun c7 => ?_) (fun c7 => ?_)
    · refine v_iconst (v := nI 0) C dX6_in_14 (by decide) ?_
      refine v_iret C F (by first | rfl | exact bI_nar _) dX6_in_15 (Nat.le_of_ble_eq_true rfl) (Nat.le_of_ble_eq_true rfl) ?_
      first
      | exact bI_t (inB_mk (by omega) (by omega))
      | exact bI_f (inB_no (by omega))
    · refine v_iconst (v := nI 1) C dX6_in_10 (by decide) ?_
      refine v_goto C 15 dX6_in_11 (by decide) ?_
      refine v_iret C F (by first | rfl | exact bI_nar _) dX6_in_15 (Nat.le_of_ble_eq_true rfl) (Nat.le_of_ble_eq_true rfl) ?_
      first
      | exact bI_t (inB_mk (by omega) (by omega))
      | exact bI_f (inB_no (by omega))
set_option maxHeartbeats 16000000 in
theorem c_X6_flag {l : Launch} (hl : l.stackTraces = false) {κ : Kp} {b : Bool}  : Ct SS MM l κ yX6_flag cX6_flag 1 (some FieldType.int) 0 0 0 [.int (bI b)] nS () ri (fun r _ => r = nI (fl b)) (fun _ _ => False) := by
  refine Ct.of (own := RX6) (by decide) rfl hl (by intro v hv; simp only [List.mem_cons, List.not_mem_nil, or_false] at hv; first | (rcases hv with rfl | rfl | rfl | rfl | rfl | rfl <;> rfl) | (rcases hv with rfl | rfl | rfl | rfl | rfl <;> rfl) | (rcases hv with rfl | rfl | rfl | rfl <;> rfl) | (rcases hv with rfl | rfl | rfl <;> rfl) | (rcases hv with rfl | rfl <;> rfl) | (subst hv; rfl) | exact hv.elim) (Nat.le_of_ble_eq_true rfl) (fun X hxl hxk C F N => ?_)
  subst hxl hxk
  show V X nS 0 [some (.int (bI b))] [] () 0 0
  refine v_iload_n C dX6_flag_0 rfl ?_
  refine v_if_eqB C 8 dX6_flag_1 (by decide) (fun c1 => ?_) (fun c1 => ?_)
  · refine v_iconst (v := nI 0) C dX6_flag_8 (by decide) ?_
    refine v_iret C F (by first | rfl | exact bI_nar _) dX6_flag_9 (Nat.le_of_ble_eq_true rfl) (Nat.le_of_ble_eq_true rfl) ?_
    rw [c1]
    rfl
  · refine v_iconst (v := nI 1) C dX6_flag_4 (by decide) ?_
    refine v_goto C 9 dX6_flag_5 (by decide) ?_
    refine v_iret C F (by first | rfl | exact bI_nar _) dX6_flag_9 (Nat.le_of_ble_eq_true rfl) (Nat.le_of_ble_eq_true rfl) ?_
    rw [c1]
    rfl
set_option maxHeartbeats 16000000 in
theorem c_X6_refuse {l : Launch} (hl : l.stackTraces = false) {κ : Kp} {h : Nat → Nat} {g : G} {b : Bool} {k : Nat} (hk : 0 < k) (hk9 : k < 9) : Ct SS MM l κ yX6_refuse cX6_refuse 3 (some FieldType.boolean) 0 0 0 [.ref (h 0), .int (bI b), .int (nI k)] (qS κ h) (tg g 0) ri (fun r u => r = bI b ∧ u = tg g (if b then k else 0)) (fun _ _ => False) := by
  refine Ct.of (own := RX6) (by decide) rfl hl (by intro v hv; simp only [List.mem_cons, List.not_mem_nil, or_false] at hv; first | (rcases hv with rfl | rfl | rfl | rfl | rfl | rfl <;> rfl) | (rcases hv with rfl | rfl | rfl | rfl | rfl <;> rfl) | (rcases hv with rfl | rfl | rfl | rfl <;> rfl) | (rcases hv with rfl | rfl | rfl <;> rfl) | (rcases hv with rfl | rfl <;> rfl) | (subst hv; rfl) | exact hv.elim) (Nat.le_of_ble_eq_true rfl) (fun X hxl hxk C F N => ?_)
  subst hxl hxk
  show V X (qS (xK X) h) 0 [some (.ref (h 0)), some (.int (bI b)), some (.int (nI k))] [] (tg g 0) 0 0
  refine v_aload_n C dX6_refuse_0 rfl ?_
  refine v_getiQ (x := nI 0) C fl_X6_33 oi_qS_0_0 (rfl) dX6_refuse_1 ?_
  refine v_if_ne C 16 dX6_refuse_4 (by decide) (fun c4 => ?_) (fun c4 => ?_)
  · exact absurd rfl c4
  · refine v_iload_n C dX6_refuse_7 rfl ?_
    refine v_if_eqB C 16 dX6_refuse_8 (by decide) (fun c8 => ?_) (fun c8 => ?_)
    · refine v_aload_n C dX6_refuse_16 rfl ?_
      refine v_getiQ (x := nI (if b then k else 0)) C fl_X6_33 oi_qS_0_0 (by rw [c8]; rfl) dX6_refuse_17 ?_
      refine v_if_eq C 27 dX6_refuse_20 (by decide) (fun c20 => ?_) (fun c20 => ?_)
      · refine v_iconst (v := nI 0) C dX6_refuse_27 (by decide) ?_
        refine v_iret C F (by first | rfl | exact bI_nar _) dX6_refuse_28 (Nat.le_of_ble_eq_true rfl) (Nat.le_of_ble_eq_true rfl) ?_
        first
        | exact ⟨by rw [c8]; rfl, by rw [c8]; rfl⟩
        | (exfalso; rw [c8] at c20; exact c20 rfl)
        | (exfalso; rw [c8] at c20; have z : k = 0 := nI_inj (by omega) (by omega) c20; omega)
      · refine v_iconst (v := nI 1) C dX6_refuse_23 (by decide) ?_
        refine v_goto C 28 dX6_refuse_24 (by decide) ?_
        refine v_iret C F (by first | rfl | exact bI_nar _) dX6_refuse_28 (Nat.le_of_ble_eq_true rfl) (Nat.le_of_ble_eq_true rfl) ?_
        first
        | exact ⟨by rw [c8]; rfl, by rw [c8]; rfl⟩
        | (exfalso; rw [c8] at c20; exact c20 rfl)
        | (exfalso; rw [c8] at c20; have z : k = 0 := nI_inj (by omega) (by omega) c20; omega)
    · refine v_aload_n C dX6_refuse_11 rfl ?_
      refine v_iload_n C dX6_refuse_12 rfl ?_
      refine v_puti C fl_X6_33 fw_X6_0 oi_qS_0_0 ⟨rfl, rfl⟩ dX6_refuse_13 ?_
      refine V.stt (g2 := (tg g k)) (by rw [← tg_tg (g := g) (a := 0) (b := k)]; rfl) ?_
      refine v_aload_n C dX6_refuse_16 rfl ?_
      refine v_getiQ (x := nI (if b then k else 0)) C fl_X6_33 oi_qS_0_0 (by rw [c8]; rfl) dX6_refuse_17 ?_
      refine v_if_eq C 27 dX6_refuse_20 (by decide) (fun c20 => ?_) (fun c20 => ?_)
      · refine v_iconst (v := nI 0) C dX6_refuse_27 (by decide) ?_
        refine v_iret C F (by first | rfl | exact bI_nar _) dX6_refuse_28 (Nat.le_of_ble_eq_true rfl) (Nat.le_of_ble_eq_true rfl) ?_
        first
        | exact ⟨by rw [c8]; rfl, by rw [c8]; rfl⟩
        | (exfalso; rw [c8] at c20; exact c20 rfl)
        | (exfalso; rw [c8] at c20; have z : k = 0 := nI_inj (by omega) (by omega) c20; omega)
      · refine v_iconst (v := nI 1) C dX6_refuse_23 (by decide) ?_
        refine v_goto C 28 dX6_refuse_24 (by decide) ?_
        refine v_iret C F (by first | rfl | exact bI_nar _) dX6_refuse_28 (Nat.le_of_ble_eq_true rfl) (Nat.le_of_ble_eq_true rfl) ?_
        first
        | exact ⟨by rw [c8]; rfl, by rw [c8]; rfl⟩
        | (exfalso; rw [c8] at c20; exact c20 rfl)
        | (exfalso; rw [c8] at c20; have z : k = 0 := nI_inj (by omega) (by omega) c20; omega)
theorem V.eqs {X : Cx} {σ : Type} {Wd : σ → va_W} {pc : Nat} {lo : List (Option Value)} {st st2 : List Value} {g : σ} {k n : Nat} (h : V X Wd pc lo st2 g k n) (e : st = st2) : V X Wd pc lo st g k n := by subst e; exact h
set_option maxHeartbeats 16000000 in
theorem c_X6_noMemory {l : Launch} (hl : l.stackTraces = false) {κ : Kp} {h : Nat → Nat} {g : G} {n : Nat} (hm : g 0 1 = bI (!decide (n = 0))) : Ct SS MM l κ yX6_noMemory cX6_noMemory 1 (some FieldType.boolean) 1 0 0 [.ref (h 0)] (qS κ h) g ri (fun r u => r = bI (decide (n = 0)) ∧ u = tg g (if decide (n = 0) then 1 else 0)) (fun _ _ => False) := by
  refine Ct.of (own := RX6) (by decide) rfl hl (by intro v hv; simp only [List.mem_cons, List.not_mem_nil, or_false] at hv; first | (rcases hv with rfl | rfl | rfl | rfl | rfl | rfl <;> rfl) | (rcases hv with rfl | rfl | rfl | rfl | rfl <;> rfl) | (rcases hv with rfl | rfl | rfl | rfl <;> rfl) | (rcases hv with rfl | rfl | rfl <;> rfl) | (rcases hv with rfl | rfl <;> rfl) | (subst hv; rfl) | exact hv.elim) (Nat.le_of_ble_eq_true rfl) (fun X hxl hxk C F N => ?_)
  subst hxl hxk
  show V X (qS (xK X) h) 0 [some (.ref (h 0))] [] g 0 0
  refine v_aload_n C dX6_noMemory_0 rfl ?_
  refine v_iconst (v := nI 0) C dX6_noMemory_1 (by decide) ?_
  refine v_puti C fl_X6_33 fw_X6_0 oi_qS_0_0 ⟨rfl, rfl⟩ dX6_noMemory_2 ?_
  refine V.stt (g2 := tg g 0) (rfl) ?_
  refine v_aload_n C dX6_noMemory_5 rfl ?_
  refine v_aload_n C dX6_noMemory_6 rfl ?_
  refine v_getiQ (x := bI (!decide (n = 0))) C fl_X6_36 oi_qS_0_1 (hm) dX6_noMemory_7 ?_
  refine v_if_neB C 17 dX6_noMemory_10 (by decide) (fun c10 => ?_) (fun c10 => ?_)
  · have hz : decide (n = 0) = false := by rw [Bool.not_eq_true'] at c10; exact c10
    refine v_iconst (v := nI 0) C dX6_noMemory_17 (by decide) ?_
    refine V.eqs (st2 := [.int (bI (decide (n = 0))), .ref (h 0)]) ?_ (by rw [hz]; rfl)
    refine v_iconst (v := nI 1) C dX6_noMemory_18 (by decide) ?_
    refine v_callVi C (c_X6_refuse hl (b := decide (n = 0)) (k := 1) (by decide) (by decide)) ym_X6_refuse ml_X6_40 emb_id_qS rfl rfl rfl rfl rfl dX6_noMemory_19 (Nat.le_of_ble_eq_true rfl) (Nat.le_of_ble_eq_true rfl) (Nat.le_of_ble_eq_true rfl) (Nat.le_of_ble_eq_true rfl) (fun _ _ hu => hu.elim) (fun r u hu => ?_)
    obtain ⟨rfl, hu⟩ := hu
    subst u
    refine v_iret C F (by first | rfl | exact bI_nar _) dX6_noMemory_22 (Nat.le_of_ble_eq_true rfl) (Nat.le_of_ble_eq_true rfl) ?_
    exact ⟨rfl, rfl⟩
  · have hz : decide (n = 0) = true := by rw [Bool.not_eq_false'] at c10; exact c10
    refine v_iconst (v := nI 1) C dX6_noMemory_13 (by decide) ?_
    refine v_goto C 18 dX6_noMemory_14 (by decide) ?_
    refine V.eqs (st2 := [.int (bI (decide (n = 0))), .ref (h 0)]) ?_ (by rw [hz]; rfl)
    refine v_iconst (v := nI 1) C dX6_noMemory_18 (by decide) ?_
    refine v_callVi C (c_X6_refuse hl (b := decide (n = 0)) (k := 1) (by decide) (by decide)) ym_X6_refuse ml_X6_40 emb_id_qS rfl rfl rfl rfl rfl dX6_noMemory_19 (Nat.le_of_ble_eq_true rfl) (Nat.le_of_ble_eq_true rfl) (Nat.le_of_ble_eq_true rfl) (Nat.le_of_ble_eq_true rfl) (fun _ _ hu => hu.elim) (fun r u hu => ?_)
    obtain ⟨rfl, hu⟩ := hu
    subst u
    refine v_iret C F (by first | rfl | exact bI_nar _) dX6_noMemory_22 (Nat.le_of_ble_eq_true rfl) (Nat.le_of_ble_eq_true rfl) ?_
    exact ⟨rfl, rfl⟩
set_option maxHeartbeats 16000000 in
theorem c_X6_isPlace {l : Launch} (hl : l.stackTraces = false) {κ : Kp} {h : Nat → Nat} {g : G} {n : Nat} {p : Int32} (hs : g 0 2 = nI n) (h96 : n ≤ 96) : Ct SS MM l κ yX6_isPlace cX6_isPlace 2 (some FieldType.boolean) 1 0 0 [.ref (h 0), .int p] (qS κ h) g ri (fun r u => r = bI (plB n p) ∧ u = g) (fun _ _ => False) := by
  refine Ct.of (own := RX6) (by decide) rfl hl (by intro v hv; simp only [List.mem_cons, List.not_mem_nil, or_false] at hv; first | (rcases hv with rfl | rfl | rfl | rfl | rfl | rfl <;> rfl) | (rcases hv with rfl | rfl | rfl | rfl | rfl <;> rfl) | (rcases hv with rfl | rfl | rfl | rfl <;> rfl) | (rcases hv with rfl | rfl | rfl <;> rfl) | (rcases hv with rfl | rfl <;> rfl) | (subst hv; rfl) | exact hv.elim) (Nat.le_of_ble_eq_true rfl) (fun X hxl hxk C F N => ?_)
  subst hxl hxk
  show V X (qS (xK X) h) 0 [some (.ref (h 0)), some (.int p)] [] g 0 0
  refine v_iload_n C dX6_isPlace_0 rfl ?_
  refine v_iconst (v := nI 0) C dX6_isPlace_1 (by decide) ?_
  refine v_aload_n C dX6_isPlace_2 rfl ?_
  refine v_getiQ (x := nI n) C fl_X6_126 oi_qS_0_2 (hs) dX6_isPlace_3 ?_
  refine v_iconst (v := nI 1) C dX6_isPlace_6 (by decide) ?_
  first | refine v_isubN C dX6_isPlace_7 (by omega) ?_ | refine v_isub C dX6_isPlace_7 ?_
  refine v_callSi C (c_X6_in hl (a := 0) (b := (n : Int) - 1) (by decide) (sub1_toInt (by omega))) ys_X6_in rfl ml_X6_98 (emb_n fix_qS) rfl rfl rfl dX6_isPlace_8 (Nat.le_of_ble_eq_true rfl) (Nat.le_of_ble_eq_true rfl) (Nat.le_of_ble_eq_true rfl) (Nat.le_of_ble_eq_true rfl) (fun _ _ hu => hu.elim) (fun r u hu => ?_)
  subst r
  refine v_iret C F (by first | rfl | exact bI_nar _) dX6_isPlace_11 (Nat.le_of_ble_eq_true rfl) (Nat.le_of_ble_eq_true rfl) ?_
  first | exact rfl | exact ⟨rfl, rfl⟩
/-- what is known of a memory that may be none -/
def QMm (n : Nat) (m : Mg) (g : G) : Prop := g 0 1 = bI (!decide (n = 0)) ∧ g 0 2 = nI n ∧ n ≤ 96 ∧ (¬ n = 0 → RowR m (g 1))
theorem np_1 {a b : Bool} (h : a = true) : cdL [(a, 1), (b, 2)] = 1 := by subst h; rfl
theorem np_2 {a b : Bool} (h : a = false) (h2 : b = true) : cdL [(a, 1), (b, 2)] = 2 := by subst h; subst h2; rfl
theorem np_0 {a b : Bool} (h : a = false) (h2 : b = false) : cdL [(a, 1), (b, 2)] = 0 := by subst h; subst h2; rfl
set_option maxHeartbeats 16000000 in
theorem c_X6_noPlace {l : Launch} (hl : l.stackTraces = false) {κ : Kp} {h : Nat → Nat} {g : G} {m : Mg} {n : Nat} {p : Int32} (hQ : QMm n m g) : Ct SS MM l κ yX6_noPlace cX6_noPlace 2 (some FieldType.boolean) 2 0 0 [.ref (h 0), .int p] (qS κ h) g ri (fun r u => r = bI (nzB (cdL [(decide (n = 0), 1), (!plB n p, 2)])) ∧ u = tg g (cdL [(decide (n = 0), 1), (!plB n p, 2)])) (fun _ _ => False) := by
  refine Ct.of (own := RX6) (by decide) rfl hl (by intro v hv; simp only [List.mem_cons, List.not_mem_nil, or_false] at hv; first | (rcases hv with rfl | rfl | rfl | rfl | rfl | rfl <;> rfl) | (rcases hv with rfl | rfl | rfl | rfl | rfl <;> rfl) | (rcases hv with rfl | rfl | rfl | rfl <;> rfl) | (rcases hv with rfl | rfl | rfl <;> rfl) | (rcases hv with rfl | rfl <;> rfl) | (subst hv; rfl) | exact hv.elim) (Nat.le_of_ble_eq_true rfl) (fun X hxl hxk C F N => ?_)
  subst hxl hxk
  show V X (qS (xK X) h) 0 [some (.ref (h 0)), some (.int p)] [] g 0 0
  obtain ⟨hm, hs, h96, hRR⟩ := id hQ
  refine v_aload_n C dX6_noPlace_0 rfl ?_
  refine v_callVi C (c_X6_noMemory hl hm) ym_X6_noMemory ml_X6_207 emb_id_qS rfl rfl rfl rfl rfl dX6_noPlace_1 (Nat.le_of_ble_eq_true rfl) (Nat.le_of_ble_eq_true rfl) (Nat.le_of_ble_eq_true rfl) (Nat.le_of_ble_eq_true rfl) (fun _ _ hu => hu.elim) (fun r u hu => ?_)
  obtain ⟨rfl, hu⟩ := hu
  subst u
  refine v_if_neB C 28 dX6_noPlace_4 (by decide) (fun c4 => ?_) (fun c4 => ?_)
  · rw [c4]
    refine v_iconst (v := nI 1) C dX6_noPlace_28 (by decide) ?_
    refine v_goto C 33 dX6_noPlace_29 (by decide) ?_
    refine v_iret C F (by first | rfl | exact bI_nar _) dX6_noPlace_33 (Nat.le_of_ble_eq_true rfl) (Nat.le_of_ble_eq_true rfl) ?_
    first
    | exact ⟨by rw [np_1 c4]; rfl, by rw [np_1 c4]; rfl⟩
    | exact ⟨by rw [np_2 c4 c25]; rfl, by rw [np_2 c4 c25, c25]; rfl⟩
    | exact ⟨by rw [np_0 c4 c25]; rfl, by rw [np_0 c4 c25, c25]; rfl⟩
  · refine V.stt (g2 := tg g 0) (by rw [c4]; rfl) ?_
    refine v_aload_n C dX6_noPlace_7 rfl ?_
    refine v_aload_n C dX6_noPlace_8 rfl ?_
    refine v_iload_n C dX6_noPlace_9 rfl ?_
    refine v_callVi C (c_X6_isPlace hl (g := tg g 0) hs h96) ym_X6_isPlace ml_X6_211 emb_id_qS rfl rfl rfl rfl rfl dX6_noPlace_10 (Nat.le_of_ble_eq_true rfl) (Nat.le_of_ble_eq_true rfl) (Nat.le_of_ble_eq_true rfl) (Nat.le_of_ble_eq_true rfl) (fun _ _ hu => hu.elim) (fun r u hu => ?_)
    obtain ⟨rfl, hu⟩ := hu
    subst u
    refine v_if_neB C 20 dX6_noPlace_13 (by decide) (fun c13 => ?_) (fun c13 => ?_)
    · refine v_iconst (v := nI 0) C dX6_noPlace_20 (by decide) ?_
      refine V.eqs (st2 := [.int (bI (!plB n p)), .ref (h 0)]) ?_ (by rw [c13]; rfl)
      refine v_iconst (v := nI 2) C dX6_noPlace_21 (by decide) ?_
      refine v_callVi C (c_X6_refuse hl (b := !plB n p) (k := 2) (by decide) (by decide)) ym_X6_refuse ml_X6_40 emb_id_qS rfl rfl rfl rfl rfl dX6_noPlace_22 (Nat.le_of_ble_eq_true rfl) (Nat.le_of_ble_eq_true rfl) (Nat.le_of_ble_eq_true rfl) (Nat.le_of_ble_eq_true rfl) (fun _ _ hu => hu.elim) (fun r u hu => ?_)
      obtain ⟨rfl, hu⟩ := hu
      subst u
      refine v_if_eqB C 32 dX6_noPlace_25 (by decide) (fun c25 => ?_) (fun c25 => ?_)
      · refine v_iconst (v := nI 0) C dX6_noPlace_32 (by decide) ?_
        refine v_iret C F (by first | rfl | exact bI_nar _) dX6_noPlace_33 (Nat.le_of_ble_eq_true rfl) (Nat.le_of_ble_eq_true rfl) ?_
        first
        | exact ⟨by rw [np_1 c4]; rfl, by rw [np_1 c4]; rfl⟩
        | exact ⟨by rw [np_2 c4 c25]; rfl, by rw [np_2 c4 c25, c25]; rfl⟩
        | exact ⟨by rw [np_0 c4 c25]; rfl, by rw [np_0 c4 c25, c25]; rfl⟩
      · refine v_iconst (v := nI 1) C dX6_noPlace_28 (by decide) ?_
        refine v_goto C 33 dX6_noPlace_29 (by decide) ?_
        refine v_iret C F (by first | rfl | exact bI_nar _) dX6_noPlace_33 (Nat.le_of_ble_eq_true rfl) (Nat.le_of_ble_eq_true rfl) ?_
        first
        | exact ⟨by rw [np_1 c4]; rfl, by rw [np_1 c4]; rfl⟩
        | exact ⟨by rw [np_2 c4 c25]; rfl, by rw [np_2 c4 c25, c25]; rfl⟩
        | exact ⟨by rw [np_0 c4 c25]; rfl, by rw [np_0 c4 c25, c25]; rfl⟩
    · refine v_iconst (v := nI 1) C dX6_noPlace_16 (by decide) ?_
      refine v_goto C 21 dX6_noPlace_17 (by decide) ?_
      refine V.eqs (st2 := [.int (bI (!plB n p)), .ref (h 0)]) ?_ (by rw [c13]; rfl)
      refine v_iconst (v := nI 2) C dX6_noPlace_21 (by decide) ?_
      refine v_callVi C (c_X6_refuse hl (b := !plB n p) (k := 2) (by decide) (by decide)) ym_X6_refuse ml_X6_40 emb_id_qS rfl rfl rfl rfl rfl dX6_noPlace_22 (Nat.le_of_ble_eq_true rfl) (Nat.le_of_ble_eq_true rfl) (Nat.le_of_ble_eq_true rfl) (Nat.le_of_ble_eq_true rfl) (fun _ _ hu => hu.elim) (fun r u hu => ?_)
      obtain ⟨rfl, hu⟩ := hu
      subst u
      refine v_if_eqB C 32 dX6_noPlace_25 (by decide) (fun c25 => ?_) (fun c25 => ?_)
      · refine v_iconst (v := nI 0) C dX6_noPlace_32 (by decide) ?_
        refine v_iret C F (by first | rfl | exact bI_nar _) dX6_noPlace_33 (Nat.le_of_ble_eq_true rfl) (Nat.le_of_ble_eq_true rfl) ?_
        first
        | exact ⟨by rw [np_1 c4]; rfl, by rw [np_1 c4]; rfl⟩
        | exact ⟨by rw [np_2 c4 c25]; rfl, by rw [np_2 c4 c25, c25]; rfl⟩
        | exact ⟨by rw [np_0 c4 c25]; rfl, by rw [np_0 c4 c25, c25]; rfl⟩
      · refine v_iconst (v := nI 1) C dX6_noPlace_28 (by decide) ?_
        refine v_goto C 33 dX6_noPlace_29 (by decide) ?_
        refine v_iret C F (by first | rfl | exact bI_nar _) dX6_noPlace_33 (Nat.le_of_ble_eq_true rfl) (Nat.le_of_ble_eq_true rfl) ?_
        first
        | exact ⟨by rw [np_1 c4]; rfl, by rw [np_1 c4]; rfl⟩
        | exact ⟨by rw [np_2 c4 c25]; rfl, by rw [np_2 c4 c25, c25]; rfl⟩
        | exact ⟨by rw [np_0 c4 c25]; rfl, by rw [np_0 c4 c25, c25]; rfl⟩
set_option maxHeartbeats 16000000 in
theorem c_X6_owes {l : Launch} (hl : l.stackTraces = false) {κ : Kp} {h : Nat → Nat} {g : G} {m : Mg} {p : Nat} (hR : RowR m (g 1)) (hp : p < 96) : Ct SS MM l κ yX6_owes cX6_owes 2 (some FieldType.boolean) 0 0 0 [.ref (h 0), .int (nI p)] (qS κ h) g ri (fun r u => r = bI (owb m p) ∧ u = g) (fun _ _ => False) := by
  refine Ct.of (own := RX6) (by decide) rfl hl (by intro v hv; simp only [List.mem_cons, List.not_mem_nil, or_false] at hv; first | (rcases hv with rfl | rfl | rfl | rfl | rfl | rfl <;> rfl) | (rcases hv with rfl | rfl | rfl | rfl | rfl <;> rfl) | (rcases hv with rfl | rfl | rfl | rfl <;> rfl) | (rcases hv with rfl | rfl | rfl <;> rfl) | (rcases hv with rfl | rfl <;> rfl) | (subst hv; rfl) | exact hv.elim) (Nat.le_of_ble_eq_true rfl) (fun X hxl hxk C F N => ?_)
  subst hxl hxk
  show V X (qS (xK X) h) 0 [some (.ref (h 0)), some (.int (nI p))] [] g 0 0
  refine v_aload_n C dX6_owes_0 rfl ?_
  refine v_getr C fl_X6_7 or_qS_0_3 dX6_owes_1 ?_
  refine v_bipush (v := nI 96) C dX6_owes_4 (by decide) ?_
  refine v_iload_n C dX6_owes_6 rfl ?_
  first | refine v_iaddN C dX6_owes_7 ?_ | refine v_iadd C dX6_owes_7 ?_
  refine v_ialdQ (x := m 2 p) C ar_qS_1 (by decide) _ (hR.s hp) ?_ rfl dX6_owes_8 ?_
  · omega
  refine v_iconst (v := (-1)) C dX6_owes_9 (by decide) ?_
  refine v_icmp_eq C 17 dX6_owes_10 (by decide) (fun c10 => ?_) (fun c10 => ?_)
  · refine v_iconst (v := nI 0) C dX6_owes_17 (by decide) ?_
    refine v_iret C F (by first | rfl | exact bI_nar _) dX6_owes_18 (Nat.le_of_ble_eq_true rfl) (Nat.le_of_ble_eq_true rfl) ?_
    first
    | exact ⟨bI_t (owb_t.mpr c10), rfl⟩
    | exact ⟨bI_f (owb_f.mpr c10), rfl⟩
  · refine v_iconst (v := nI 1) C dX6_owes_13 (by decide) ?_
    refine v_goto C 18 dX6_owes_14 (by decide) ?_
    refine v_iret C F (by first | rfl | exact bI_nar _) dX6_owes_18 (Nat.le_of_ble_eq_true rfl) (Nat.le_of_ble_eq_true rfl) ?_
    first
    | exact ⟨bI_t (owb_t.mpr c10), rfl⟩
    | exact ⟨bI_f (owb_f.mpr c10), rfl⟩
set_option maxHeartbeats 16000000 in
theorem c_X6_hopsOf {l : Launch} (hl : l.stackTraces = false) {κ : Kp} {h : Nat → Nat} {g : G} {m : Mg} {n p : Nat} (hR : RowR m (g 1)) (hI : IM m n) (hp : p < n) : Ct SS MM l κ yX6_hopsOf cX6_hopsOf 4 (some FieldType.int) 1 0 0 [.ref (h 0), .int (nI p)] (qS κ h) g ri (fun r u => r = nI (hopsM m p) ∧ u = g) (fun _ _ => False) := by
  refine Ct.of (own := RX6) (by decide) rfl hl (by intro v hv; simp only [List.mem_cons, List.not_mem_nil, or_false] at hv; first | (rcases hv with rfl | rfl | rfl | rfl | rfl | rfl <;> rfl) | (rcases hv with rfl | rfl | rfl | rfl | rfl <;> rfl) | (rcases hv with rfl | rfl | rfl | rfl <;> rfl) | (rcases hv with rfl | rfl | rfl <;> rfl) | (rcases hv with rfl | rfl <;> rfl) | (subst hv; rfl) | exact hv.elim) (Nat.le_of_ble_eq_true rfl) (fun X hxl hxk C F N => ?_)
  subst hxl hxk
  show V X (qS (xK X) h) 0 [some (.ref (h 0)), some (.int (nI p)), none, none] [] g 0 0
  have h96 := hI.2.1
  refine v_iconst (v := nI 0) C dX6_hopsOf_0 (by decide) ?_
  refine v_istore_n C (lo2 := [some _, some _, some _, none]) dX6_hopsOf_1 rfl (Nat.le_of_ble_eq_true rfl) rfl ?_
  refine v_iload_n C dX6_hopsOf_2 rfl ?_
  refine v_istore_n C (lo2 := [some _, some _, some _, some _]) dX6_hopsOf_3 rfl (Nat.le_of_ble_eq_true rfl) rfl ?_
  have L4 : ∀ (t : Nat × Nat), (fun t => t.2 < n ∧ t.1 + hopsM m t.2 = hopsM m p) t → (fun t : Nat × Nat => V X (qS (xK X) h) 4 [some (.ref (h 0)), some (.int (nI p)), some (.int (nI t.1)), some (.int (nI t.2))] [] g 0 0) t := by
    refine v_ind (fun t : Nat × Nat => hopsM m t.2) ?_
    rintro ⟨c, a⟩ ih4 hI4
    try dsimp only at hI4 ⊢
    obtain ⟨i1, i2⟩ := hI4
    refine v_aload_n C dX6_hopsOf_4 rfl ?_
    refine v_iload_n C dX6_hopsOf_5 rfl ?_
    refine v_callVi C (c_X6_owes hl hR (by omega)) ym_X6_owes ml_X6_217 emb_id_qS rfl rfl rfl rfl rfl dX6_hopsOf_6 (Nat.le_of_ble_eq_true rfl) (Nat.le_of_ble_eq_true rfl) (Nat.le_of_ble_eq_true rfl) (Nat.le_of_ble_eq_true rfl) (fun _ _ hu => hu.elim) (fun r u hu => ?_)
    obtain ⟨rfl, hu⟩ := hu
    subst u
    refine v_if_eqB C 28 dX6_hopsOf_9 (by decide) (fun c9 => ?_) (fun c9 => ?_)
    · have he := hops_eq hI i1
      rw [if_pos (owb_f.mp c9)] at he
      refine v_iload_n C dX6_hopsOf_28 rfl ?_
      refine v_iret C F (by first | rfl | exact bI_nar _) dX6_hopsOf_29 (Nat.le_of_ble_eq_true rfl) (Nat.le_of_ble_eq_true rfl) ?_
      exact ⟨by rw [← i2, he, Nat.add_zero], rfl⟩
    · have hs := IM_src hI i1 (owb_t.mp c9)
      have he := hops_eq hI i1
      rw [if_neg (owb_t.mp c9)] at he
      first | refine v_iinc1 C (lo2 := [some _, some _, some _, some _]) dX6_hopsOf_12 rfl rfl rfl ?_ | refine v_iinc C (lo2 := [some _, some _, some _, some _]) dX6_hopsOf_12 rfl rfl rfl rfl ?_
      refine v_aload_n C dX6_hopsOf_15 rfl ?_
      refine v_getr C fl_X6_7 or_qS_0_3 dX6_hopsOf_16 ?_
      refine v_bipush (v := nI 96) C dX6_hopsOf_19 (by decide) ?_
      refine v_iload_n C dX6_hopsOf_21 rfl ?_
      first | refine v_iaddN C dX6_hopsOf_22 ?_ | refine v_iadd C dX6_hopsOf_22 ?_
      refine v_ialdQ (x := nI (src m a)) C ar_qS_1 (by decide) _ ((hR.s (by omega)).trans hs.2) ?_ rfl dX6_hopsOf_23 ?_
      · omega
      refine v_istore_n C (lo2 := [some _, some _, some _, some _]) dX6_hopsOf_24 rfl (Nat.le_of_ble_eq_true rfl) rfl ?_
      refine v_goto C 4 dX6_hopsOf_25 (by decide) ?_
      exact ih4 (c + 1, src m a) (by show hopsM m (src m a) < hopsM m a; omega) ⟨hs.1, by show c + 1 + hopsM m (src m a) = hopsM m p; omega⟩
  exact L4 (0, p) ⟨hp, Nat.zero_add _⟩
set_option maxHeartbeats 16000000 in
theorem c_X6_rootOf {l : Launch} (hl : l.stackTraces = false) {κ : Kp} {h : Nat → Nat} {g : G} {m : Mg} {n p : Nat} (hR : RowR m (g 1)) (hI : IM m n) (hp : p < n) : Ct SS MM l κ yX6_rootOf cX6_rootOf 3 (some FieldType.int) 1 0 0 [.ref (h 0), .int (nI p)] (qS κ h) g ri (fun r u => r = nI (rootM m p) ∧ u = g) (fun _ _ => False) := by
  refine Ct.of (own := RX6) (by decide) rfl hl (by intro v hv; simp only [List.mem_cons, List.not_mem_nil, or_false] at hv; first | (rcases hv with rfl | rfl | rfl | rfl | rfl | rfl <;> rfl) | (rcases hv with rfl | rfl | rfl | rfl | rfl <;> rfl) | (rcases hv with rfl | rfl | rfl | rfl <;> rfl) | (rcases hv with rfl | rfl | rfl <;> rfl) | (rcases hv with rfl | rfl <;> rfl) | (subst hv; rfl) | exact hv.elim) (Nat.le_of_ble_eq_true rfl) (fun X hxl hxk C F N => ?_)
  subst hxl hxk
  show V X (qS (xK X) h) 0 [some (.ref (h 0)), some (.int (nI p)), none] [] g 0 0
  have h96 := hI.2.1
  refine v_iload_n C dX6_rootOf_0 rfl ?_
  refine v_istore_n C (lo2 := [some _, some _, some _]) dX6_rootOf_1 rfl (Nat.le_of_ble_eq_true rfl) rfl ?_
  have L2 : ∀ (t : Nat), (fun t => t < n ∧ rootM m t = rootM m p) t → (fun t : Nat => V X (qS (xK X) h) 2 [some (.ref (h 0)), some (.int (nI p)), some (.int (nI t))] [] g 0 0) t := by
    refine v_ind (fun t : Nat => hopsM m t) ?_
    rintro a ih2 hI2
    try dsimp only at hI2 ⊢
    obtain ⟨i1, i2⟩ := hI2
    refine v_aload_n C dX6_rootOf_2 rfl ?_
    refine v_iload_n C dX6_rootOf_3 rfl ?_
    refine v_callVi C (c_X6_owes hl hR (by omega)) ym_X6_owes ml_X6_217 emb_id_qS rfl rfl rfl rfl rfl dX6_rootOf_4 (Nat.le_of_ble_eq_true rfl) (Nat.le_of_ble_eq_true rfl) (Nat.le_of_ble_eq_true rfl) (Nat.le_of_ble_eq_true rfl) (fun _ _ hu => hu.elim) (fun r u hu => ?_)
    obtain ⟨rfl, hu⟩ := hu
    subst u
    refine v_if_eqB C 23 dX6_rootOf_7 (by decide) (fun c7 => ?_) (fun c7 => ?_)
    · have hr := root_eq hI i1
      rw [if_pos (owb_f.mp c7)] at hr
      refine v_iload_n C dX6_rootOf_23 rfl ?_
      refine v_iret C F (by first | rfl | exact bI_nar _) dX6_rootOf_24 (Nat.le_of_ble_eq_true rfl) (Nat.le_of_ble_eq_true rfl) ?_
      exact ⟨by rw [← i2, hr], rfl⟩
    · have hs := IM_src hI i1 (owb_t.mp c7)
      have he := hops_eq hI i1
      rw [if_neg (owb_t.mp c7)] at he
      have hr := root_eq hI i1
      rw [if_neg (owb_t.mp c7)] at hr
      refine v_aload_n C dX6_rootOf_10 rfl ?_
      refine v_getr C fl_X6_7 or_qS_0_3 dX6_rootOf_11 ?_
      refine v_bipush (v := nI 96) C dX6_rootOf_14 (by decide) ?_
      refine v_iload_n C dX6_rootOf_16 rfl ?_
      first | refine v_iaddN C dX6_rootOf_17 ?_ | refine v_iadd C dX6_rootOf_17 ?_
      refine v_ialdQ (x := nI (src m a)) C ar_qS_1 (by decide) _ ((hR.s (by omega)).trans hs.2) ?_ rfl dX6_rootOf_18 ?_
      · omega
      refine v_istore_n C (lo2 := [some _, some _, some _]) dX6_rootOf_19 rfl (Nat.le_of_ble_eq_true rfl) rfl ?_
      refine v_goto C 2 dX6_rootOf_20 (by decide) ?_
      exact ih2 (src m a) (by show hopsM m (src m a) < hopsM m a; omega) ⟨hs.1, by rw [← i2, hr]⟩
  exact L2 p ⟨hp, rfl⟩
set_option maxHeartbeats 16000000 in
theorem c_X6_valueOf {l : Launch} (hl : l.stackTraces = false) {κ : Kp} {h : Nat → Nat} {g : G} {m : Mg} {n p : Nat} (hR : RowR m (g 1)) (hI : IM m n) (hp : p < n) : Ct SS MM l κ yX6_valueOf cX6_valueOf 2 (some FieldType.int) 2 0 0 [.ref (h 0), .int (nI p)] (qS κ h) g ri (fun r u => r = valM m p ∧ u = g) (fun _ _ => False) := by
  refine Ct.of (own := RX6) (by decide) rfl hl (by intro v hv; simp only [List.mem_cons, List.not_mem_nil, or_false] at hv; first | (rcases hv with rfl | rfl | rfl | rfl | rfl | rfl <;> rfl) | (rcases hv with rfl | rfl | rfl | rfl | rfl <;> rfl) | (rcases hv with rfl | rfl | rfl | rfl <;> rfl) | (rcases hv with rfl | rfl | rfl <;> rfl) | (rcases hv with rfl | rfl <;> rfl) | (subst hv; rfl) | exact hv.elim) (Nat.le_of_ble_eq_true rfl) (fun X hxl hxk C F N => ?_)
  subst hxl hxk
  show V X (qS (xK X) h) 0 [some (.ref (h 0)), some (.int (nI p))] [] g 0 0
  have h96 := hI.2.1
  have hr := (root_end hI p hp).1
  refine v_aload_n C dX6_valueOf_0 rfl ?_
  refine v_getr C fl_X6_7 or_qS_0_3 dX6_valueOf_1 ?_
  refine v_iconst (v := nI 0) C dX6_valueOf_4 (by decide) ?_
  refine v_aload_n C dX6_valueOf_5 rfl ?_
  refine v_iload_n C dX6_valueOf_6 rfl ?_
  refine v_callVi C (c_X6_rootOf hl hR hI hp) ym_X6_rootOf ml_X6_220 emb_id_qS rfl rfl rfl rfl rfl dX6_valueOf_7 (Nat.le_of_ble_eq_true rfl) (Nat.le_of_ble_eq_true rfl) (Nat.le_of_ble_eq_true rfl) (Nat.le_of_ble_eq_true rfl) (fun _ _ hu => hu.elim) (fun r u hu => ?_)
  obtain ⟨rfl, hu⟩ := hu
  subst u
  first | refine v_iaddN C dX6_valueOf_10 ?_ | refine v_iadd C dX6_valueOf_10 ?_
  refine v_ialdQ (x := valM m p) C ar_qS_1 (by decide) _ (hR.b0 (by omega)) ?_ rfl dX6_valueOf_11 ?_
  · omega
  refine v_iret C F (by first | rfl | exact bI_nar _) dX6_valueOf_12 (Nat.le_of_ble_eq_true rfl) (Nat.le_of_ble_eq_true rfl) ?_
  first | exact rfl | exact ⟨rfl, rfl⟩
set_option maxHeartbeats 16000000 in
theorem c_X6_owedNow {l : Launch} (hl : l.stackTraces = false) {κ : Kp} {h : Nat → Nat} {g : G} {m : Mg} {n : Nat} (hR : RowR m (g 1)) (hs : g 0 2 = nI n) (h96 : n ≤ 96) : Ct SS MM l κ yX6_owedNow cX6_owedNow 3 (some FieldType.int) 1 0 0 [.ref (h 0)] (qS κ h) g ri (fun r u => r = nI (cntG (owb m) 0 n) ∧ u = g) (fun _ _ => False) := by
  refine Ct.of (own := RX6) (by decide) rfl hl (by intro v hv; simp only [List.mem_cons, List.not_mem_nil, or_false] at hv; first | (rcases hv with rfl | rfl | rfl | rfl | rfl | rfl <;> rfl) | (rcases hv with rfl | rfl | rfl | rfl | rfl <;> rfl) | (rcases hv with rfl | rfl | rfl | rfl <;> rfl) | (rcases hv with rfl | rfl | rfl <;> rfl) | (rcases hv with rfl | rfl <;> rfl) | (subst hv; rfl) | exact hv.elim) (Nat.le_of_ble_eq_true rfl) (fun X hxl hxk C F N => ?_)
  subst hxl hxk
  show V X (qS (xK X) h) 0 [some (.ref (h 0)), none, none] [] g 0 0
  refine v_iconst (v := nI 0) C dX6_owedNow_0 (by decide) ?_
  refine v_istore_n C (lo2 := [some _, some _, none]) dX6_owedNow_1 rfl (Nat.le_of_ble_eq_true rfl) rfl ?_
  refine v_iconst (v := nI 0) C dX6_owedNow_2 (by decide) ?_
  refine v_istore_n C (lo2 := [some _, some _, some _]) dX6_owedNow_3 rfl (Nat.le_of_ble_eq_true rfl) rfl ?_
  have L4 : ∀ (t : Nat × Nat), (fun t => 0 ≤ t.1 ∧ t.1 ≤ 200 ∧ t.2 ≤ t.1 ∧ t.2 + cntG (owb m) t.1 (n - t.1) = cntG (owb m) 0 (n - 0)) t → (fun t : Nat × Nat => V X (qS (xK X) h) 4 [some (.ref (h 0)), some (.int (nI t.2)), some (.int (nI t.1))] [] g 0 0) t := by
    refine v_ind (fun t : Nat × Nat => n - t.1) ?_
    rintro ⟨i, c⟩ ih4 hI4
    try dsimp only at hI4 ⊢
    obtain ⟨i1, i2, i4, i3⟩ := hI4
    refine v_iload_n C dX6_owedNow_4 rfl ?_
    refine v_aload_n C dX6_owedNow_5 rfl ?_
    refine v_getiQ (x := nI n) C fl_X6_126 oi_qS_0_2 (hs) dX6_owedNow_6 ?_
    first | refine v_icmp_geN C 29 dX6_owedNow_9 (by decide) (by omega) (by omega) (fun c9 => ?_) (fun c9 => ?_) | refine v_icmp_ge C 29 dX6_owedNow_9 (by decide) (fun c9 => ?_) (fun c9 => ?_)
    · refine v_iload_n C dX6_owedNow_29 rfl ?_
      refine v_iret C F (by first | rfl | exact bI_nar _) dX6_owedNow_30 (Nat.le_of_ble_eq_true rfl) (Nat.le_of_ble_eq_true rfl) ?_
      rw [cntG_0 (by omega), Nat.add_zero] at i3
      exact ⟨congrArg nI i3, rfl⟩
    · refine v_iload_n C dX6_owedNow_12 rfl ?_
      refine v_aload_n C dX6_owedNow_13 rfl ?_
      refine v_iload_n C dX6_owedNow_14 rfl ?_
      refine v_callVi C (c_X6_owes hl hR (by omega)) ym_X6_owes ml_X6_217 emb_id_qS rfl rfl rfl rfl rfl dX6_owedNow_15 (Nat.le_of_ble_eq_true rfl) (Nat.le_of_ble_eq_true rfl) (Nat.le_of_ble_eq_true rfl) (Nat.le_of_ble_eq_true rfl) (fun _ _ hu => hu.elim) (fun r u hu => ?_)
      obtain ⟨rfl, hu⟩ := hu
      subst u
      refine v_callSi C (c_X6_flag hl (b := owb m i)) ys_X6_flag rfl ml_X6_232 (emb_n fix_qS) rfl rfl rfl dX6_owedNow_18 (Nat.le_of_ble_eq_true rfl) (Nat.le_of_ble_eq_true rfl) (Nat.le_of_ble_eq_true rfl) (Nat.le_of_ble_eq_true rfl) (fun _ _ hu => hu.elim) (fun r u hu => ?_)
      subst r
      first | refine v_iaddN C dX6_owedNow_21 ?_ | refine v_iadd C dX6_owedNow_21 ?_
      refine v_istore_n C (lo2 := [some _, some _, some _]) dX6_owedNow_22 rfl (Nat.le_of_ble_eq_true rfl) rfl ?_
      first | refine v_iinc1 C (lo2 := [some _, some _, some _]) dX6_owedNow_23 rfl rfl rfl ?_ | refine v_iinc C (lo2 := [some _, some _, some _]) dX6_owedNow_23 rfl rfl rfl rfl ?_
      refine v_goto C 4 dX6_owedNow_26 (by decide) ?_
      have hib : i < n := by omega
      rw [cntG_s hib] at i3
      have hfl : fl ((owb m) i) = (if (owb m) i = true then 1 else 0) := rfl
      have hf1 : fl ((owb m) i) ≤ 1 := by rw [hfl]; split <;> omega
      rw [← hfl] at i3
      exact ih4 (i + 1, c + fl ((owb m) i)) (by show n - (i + 1) < n - i; omega) ⟨by show 0 ≤ i + 1; omega, by show i + 1 ≤ 200; omega, by show c + fl ((owb m) i) ≤ i + 1; omega, by show c + fl ((owb m) i) + cntG (owb m) (i + 1) (n - (i + 1)) = _; omega⟩
  exact L4 (0, 0) ⟨Nat.le_refl _, by show 0 ≤ 200; omega, by show 0 ≤ 0; omega, Nat.zero_add _⟩
set_option maxHeartbeats 16000000 in
theorem c_X6_goesOnWith {l : Launch} (hl : l.stackTraces = false) {κ : Kp} {h : Nat → Nat} {g : G} {m : Mg} {p : Nat} (hR : RowR m (g 1)) (hp : p < 96) : Ct SS MM l κ yX6_goesOnWith cX6_goesOnWith 2 (some FieldType.boolean) 1 0 0 [.ref (h 0), .int (nI p)] (qS κ h) g ri (fun r u => r = bI (contM m p) ∧ u = g) (fun _ _ => False) := by
  refine Ct.of (own := RX6) (by decide) rfl hl (by intro v hv; simp only [List.mem_cons, List.not_mem_nil, or_false] at hv; first | (rcases hv with rfl | rfl | rfl | rfl | rfl | rfl <;> rfl) | (rcases hv with rfl | rfl | rfl | rfl | rfl <;> rfl) | (rcases hv with rfl | rfl | rfl | rfl <;> rfl) | (rcases hv with rfl | rfl | rfl <;> rfl) | (rcases hv with rfl | rfl <;> rfl) | (subst hv; rfl) | exact hv.elim) (Nat.le_of_ble_eq_true rfl) (fun X hxl hxk C F N => ?_)
  subst hxl hxk
  show V X (qS (xK X) h) 0 [some (.ref (h 0)), some (.int (nI p))] [] g 0 0
  refine v_iload_n C dX6_goesOnWith_0 rfl ?_
  refine v_if_le C 76 dX6_goesOnWith_1 (by decide) (fun c1 => ?_) (fun c1 => ?_)
  · rw [nI_toInt (by omega)] at c1
    have hz : contM m p = false := by
      unfold contM
      rw [decide_eq_false (show ¬ 0 < p by omega)]
      simp
    refine v_iconst (v := nI 0) C dX6_goesOnWith_76 (by decide) ?_
    refine v_iret C F (by first | rfl | exact bI_nar _) dX6_goesOnWith_77 (Nat.le_of_ble_eq_true rfl) (Nat.le_of_ble_eq_true rfl) ?_
    first
    | exact ⟨bI_f hz, rfl⟩
    | exact ⟨bI_t hz, rfl⟩
  · rw [nI_toInt (by omega)] at c1
    refine v_aload_n C dX6_goesOnWith_4 rfl ?_
    refine v_iload_n C dX6_goesOnWith_5 rfl ?_
    refine v_callVi C (c_X6_owes hl hR hp) ym_X6_owes ml_X6_217 emb_id_qS rfl rfl rfl rfl rfl dX6_goesOnWith_6 (Nat.le_of_ble_eq_true rfl) (Nat.le_of_ble_eq_true rfl) (Nat.le_of_ble_eq_true rfl) (Nat.le_of_ble_eq_true rfl) (fun _ _ hu => hu.elim) (fun r u hu => ?_)
    obtain ⟨rfl, hu⟩ := hu
    subst u
    refine v_if_eqB C 76 dX6_goesOnWith_9 (by decide) (fun c9 => ?_) (fun c9 => ?_)
    · have hz : contM m p = false := by
        unfold contM
        rw [c9]
        rfl
      refine v_iconst (v := nI 0) C dX6_goesOnWith_76 (by decide) ?_
      refine v_iret C F (by first | rfl | exact bI_nar _) dX6_goesOnWith_77 (Nat.le_of_ble_eq_true rfl) (Nat.le_of_ble_eq_true rfl) ?_
      first
      | exact ⟨bI_f hz, rfl⟩
      | exact ⟨bI_t hz, rfl⟩
    · refine v_aload_n C dX6_goesOnWith_12 rfl ?_
      refine v_iload_n C dX6_goesOnWith_13 rfl ?_
      refine v_iconst (v := nI 1) C dX6_goesOnWith_14 (by decide) ?_
      first | refine v_isubN C dX6_goesOnWith_15 (by omega) ?_ | refine v_isub C dX6_goesOnWith_15 ?_
      refine v_callVi C (c_X6_owes hl (p := p - 1) hR (by omega)) ym_X6_owes ml_X6_217 emb_id_qS rfl rfl rfl rfl rfl dX6_goesOnWith_16 (Nat.le_of_ble_eq_true rfl) (Nat.le_of_ble_eq_true rfl) (Nat.le_of_ble_eq_true rfl) (Nat.le_of_ble_eq_true rfl) (fun _ _ hu => hu.elim) (fun r u hu => ?_)
      obtain ⟨rfl, hu⟩ := hu
      subst u
      refine v_if_eqB C 76 dX6_goesOnWith_19 (by decide) (fun c19 => ?_) (fun c19 => ?_)
      · have hz : contM m p = false := by
          unfold contM
          rw [c19]
          simp
        refine v_iconst (v := nI 0) C dX6_goesOnWith_76 (by decide) ?_
        refine v_iret C F (by first | rfl | exact bI_nar _) dX6_goesOnWith_77 (Nat.le_of_ble_eq_true rfl) (Nat.le_of_ble_eq_true rfl) ?_
        first
        | exact ⟨bI_f hz, rfl⟩
        | exact ⟨bI_t hz, rfl⟩
      · refine v_aload_n C dX6_goesOnWith_22 rfl ?_
        refine v_getr C fl_X6_7 or_qS_0_3 dX6_goesOnWith_23 ?_
        refine v_sipush (v := nI 192) C dX6_goesOnWith_26 (by decide) ?_
        refine v_iload_n C dX6_goesOnWith_29 rfl ?_
        first | refine v_iaddN C dX6_goesOnWith_30 ?_ | refine v_iadd C dX6_goesOnWith_30 ?_
        refine v_ialdQ (x := m 3 p) C ar_qS_1 (by decide) _ (hR.r hp) ?_ rfl dX6_goesOnWith_31 ?_
        · omega
        refine v_aload_n C dX6_goesOnWith_32 rfl ?_
        refine v_getr C fl_X6_7 or_qS_0_3 dX6_goesOnWith_33 ?_
        refine v_sipush (v := nI 192) C dX6_goesOnWith_36 (by decide) ?_
        refine v_iload_n C dX6_goesOnWith_39 rfl ?_
        first | refine v_iaddN C dX6_goesOnWith_40 ?_ | refine v_iadd C dX6_goesOnWith_40 ?_
        refine v_iconst (v := nI 1) C dX6_goesOnWith_41 (by decide) ?_
        first | refine v_isubN C dX6_goesOnWith_42 (by omega) ?_ | refine v_isub C dX6_goesOnWith_42 ?_
        refine v_ialdQ (x := m 3 (p - 1)) C ar_qS_1 (by decide) (192 + (p - 1)) (hR.r (by omega)) ?_ (congrArg nI (by omega)) dX6_goesOnWith_43 ?_
        · omega
        refine v_icmp_ne C 76 dX6_goesOnWith_44 (by decide) (fun c44 => ?_) (fun c44 => ?_)
        · have hz : contM m p = false := by
            unfold contM
            rw [show (m 3 p == m 3 (p - 1)) = false from beq_eq_false_iff_ne.mpr c44]
            simp
          refine v_iconst (v := nI 0) C dX6_goesOnWith_76 (by decide) ?_
          refine v_iret C F (by first | rfl | exact bI_nar _) dX6_goesOnWith_77 (Nat.le_of_ble_eq_true rfl) (Nat.le_of_ble_eq_true rfl) ?_
          first
          | exact ⟨bI_f hz, rfl⟩
          | exact ⟨bI_t hz, rfl⟩
        · refine v_aload_n C dX6_goesOnWith_47 rfl ?_
          refine v_getr C fl_X6_7 or_qS_0_3 dX6_goesOnWith_48 ?_
          refine v_bipush (v := nI 96) C dX6_goesOnWith_51 (by decide) ?_
          refine v_iload_n C dX6_goesOnWith_53 rfl ?_
          first | refine v_iaddN C dX6_goesOnWith_54 ?_ | refine v_iadd C dX6_goesOnWith_54 ?_
          refine v_ialdQ (x := m 2 p) C ar_qS_1 (by decide) _ (hR.s hp) ?_ rfl dX6_goesOnWith_55 ?_
          · omega
          refine v_aload_n C dX6_goesOnWith_56 rfl ?_
          refine v_getr C fl_X6_7 or_qS_0_3 dX6_goesOnWith_57 ?_
          refine v_bipush (v := nI 96) C dX6_goesOnWith_60 (by decide) ?_
          refine v_iload_n C dX6_goesOnWith_62 rfl ?_
          first | refine v_iaddN C dX6_goesOnWith_63 ?_ | refine v_iadd C dX6_goesOnWith_63 ?_
          refine v_iconst (v := nI 1) C dX6_goesOnWith_64 (by decide) ?_
          first | refine v_isubN C dX6_goesOnWith_65 (by omega) ?_ | refine v_isub C dX6_goesOnWith_65 ?_
          refine v_ialdQ (x := m 2 (p - 1)) C ar_qS_1 (by decide) (96 + (p - 1)) (hR.s (by omega)) ?_ (congrArg nI (by omega)) dX6_goesOnWith_66 ?_
          · omega
          refine v_iconst (v := nI 1) C dX6_goesOnWith_67 (by decide) ?_
          first | refine v_iaddN C dX6_goesOnWith_68 ?_ | refine v_iadd C dX6_goesOnWith_68 ?_
          refine v_icmp_ne C 76 dX6_goesOnWith_69 (by decide) (fun c69 => ?_) (fun c69 => ?_)
          · have hz : contM m p = false := by
              unfold contM
              rw [show (m 2 p == m 2 (p - 1) + nI 1) = false from beq_eq_false_iff_ne.mpr c69]
              simp
            refine v_iconst (v := nI 0) C dX6_goesOnWith_76 (by decide) ?_
            refine v_iret C F (by first | rfl | exact bI_nar _) dX6_goesOnWith_77 (Nat.le_of_ble_eq_true rfl) (Nat.le_of_ble_eq_true rfl) ?_
            first
            | exact ⟨bI_f hz, rfl⟩
            | exact ⟨bI_t hz, rfl⟩
          · have hz : contM m p = true := by
              unfold contM
              rw [c9, decide_eq_true (show 0 < p by omega), c19, beq_iff_eq.mpr c44, beq_iff_eq.mpr c69]
              rfl
            refine v_iconst (v := nI 1) C dX6_goesOnWith_72 (by decide) ?_
            refine v_goto C 77 dX6_goesOnWith_73 (by decide) ?_
            refine v_iret C F (by first | rfl | exact bI_nar _) dX6_goesOnWith_77 (Nat.le_of_ble_eq_true rfl) (Nat.le_of_ble_eq_true rfl) ?_
            first
            | exact ⟨bI_f hz, rfl⟩
            | exact ⟨bI_t hz, rfl⟩
set_option maxHeartbeats 16000000 in
theorem c_X6_begins {l : Launch} (hl : l.stackTraces = false) {κ : Kp} {h : Nat → Nat} {g : G} {m : Mg} {p : Nat} (hR : RowR m (g 1)) (hp : p < 96) : Ct SS MM l κ yX6_begins cX6_begins 2 (some FieldType.boolean) 2 0 0 [.ref (h 0), .int (nI p)] (qS κ h) g ri (fun r u => r = bI (startM m p) ∧ u = g) (fun _ _ => False) := by
  refine Ct.of (own := RX6) (by decide) rfl hl (by intro v hv; simp only [List.mem_cons, List.not_mem_nil, or_false] at hv; first | (rcases hv with rfl | rfl | rfl | rfl | rfl | rfl <;> rfl) | (rcases hv with rfl | rfl | rfl | rfl | rfl <;> rfl) | (rcases hv with rfl | rfl | rfl | rfl <;> rfl) | (rcases hv with rfl | rfl | rfl <;> rfl) | (rcases hv with rfl | rfl <;> rfl) | (subst hv; rfl) | exact hv.elim) (Nat.le_of_ble_eq_true rfl) (fun X hxl hxk C F N => ?_)
  subst hxl hxk
  show V X (qS (xK X) h) 0 [some (.ref (h 0)), some (.int (nI p))] [] g 0 0
  refine v_aload_n C dX6_begins_0 rfl ?_
  refine v_iload_n C dX6_begins_1 rfl ?_
  refine v_callVi C (c_X6_owes hl hR hp) ym_X6_owes ml_X6_217 emb_id_qS rfl rfl rfl rfl rfl dX6_begins_2 (Nat.le_of_ble_eq_true rfl) (Nat.le_of_ble_eq_true rfl) (Nat.le_of_ble_eq_true rfl) (Nat.le_of_ble_eq_true rfl) (fun _ _ hu => hu.elim) (fun r u hu => ?_)
  obtain ⟨rfl, hu⟩ := hu
  subst u
  refine v_if_eqB C 20 dX6_begins_5 (by decide) (fun c5 => ?_) (fun c5 => ?_)
  · refine v_iconst (v := nI 0) C dX6_begins_20 (by decide) ?_
    refine v_iret C F (by first | rfl | exact bI_nar _) dX6_begins_21 (Nat.le_of_ble_eq_true rfl) (Nat.le_of_ble_eq_true rfl) ?_
    first
    | exact ⟨bI_f (by unfold startM; rw [c5]; rfl), rfl⟩
    | exact ⟨bI_f (by unfold startM; rw [c13]; simp), rfl⟩
    | exact ⟨bI_t (by unfold startM; rw [c5, c13]; rfl), rfl⟩
  · refine v_aload_n C dX6_begins_8 rfl ?_
    refine v_iload_n C dX6_begins_9 rfl ?_
    refine v_callVi C (c_X6_goesOnWith hl hR hp) ym_X6_goesOnWith ml_X6_239 emb_id_qS rfl rfl rfl rfl rfl dX6_begins_10 (Nat.le_of_ble_eq_true rfl) (Nat.le_of_ble_eq_true rfl) (Nat.le_of_ble_eq_true rfl) (Nat.le_of_ble_eq_true rfl) (fun _ _ hu => hu.elim) (fun r u hu => ?_)
    obtain ⟨rfl, hu⟩ := hu
    subst u
    refine v_if_neB C 20 dX6_begins_13 (by decide) (fun c13 => ?_) (fun c13 => ?_)
    · refine v_iconst (v := nI 0) C dX6_begins_20 (by decide) ?_
      refine v_iret C F (by first | rfl | exact bI_nar _) dX6_begins_21 (Nat.le_of_ble_eq_true rfl) (Nat.le_of_ble_eq_true rfl) ?_
      first
      | exact ⟨bI_f (by unfold startM; rw [c5]; rfl), rfl⟩
      | exact ⟨bI_f (by unfold startM; rw [c13]; simp), rfl⟩
      | exact ⟨bI_t (by unfold startM; rw [c5, c13]; rfl), rfl⟩
    · refine v_iconst (v := nI 1) C dX6_begins_16 (by decide) ?_
      refine v_goto C 21 dX6_begins_17 (by decide) ?_
      refine v_iret C F (by first | rfl | exact bI_nar _) dX6_begins_21 (Nat.le_of_ble_eq_true rfl) (Nat.le_of_ble_eq_true rfl) ?_
      first
      | exact ⟨bI_f (by unfold startM; rw [c5]; rfl), rfl⟩
      | exact ⟨bI_f (by unfold startM; rw [c13]; simp), rfl⟩
      | exact ⟨bI_t (by unfold startM; rw [c5, c13]; rfl), rfl⟩
set_option maxHeartbeats 16000000 in
theorem c_X6_debtsNow {l : Launch} (hl : l.stackTraces = false) {κ : Kp} {h : Nat → Nat} {g : G} {m : Mg} {n : Nat} (hR : RowR m (g 1)) (hs : g 0 2 = nI n) (h96 : n ≤ 96) : Ct SS MM l κ yX6_debtsNow cX6_debtsNow 3 (some FieldType.int) 3 0 0 [.ref (h 0)] (qS κ h) g ri (fun r u => r = nI (cntG (startM m) 0 n) ∧ u = g) (fun _ _ => False) := by
  refine Ct.of (own := RX6) (by decide) rfl hl (by intro v hv; simp only [List.mem_cons, List.not_mem_nil, or_false] at hv; first | (rcases hv with rfl | rfl | rfl | rfl | rfl | rfl <;> rfl) | (rcases hv with rfl | rfl | rfl | rfl | rfl <;> rfl) | (rcases hv with rfl | rfl | rfl | rfl <;> rfl) | (rcases hv with rfl | rfl | rfl <;> rfl) | (rcases hv with rfl | rfl <;> rfl) | (subst hv; rfl) | exact hv.elim) (Nat.le_of_ble_eq_true rfl) (fun X hxl hxk C F N => ?_)
  subst hxl hxk
  show V X (qS (xK X) h) 0 [some (.ref (h 0)), none, none] [] g 0 0
  refine v_iconst (v := nI 0) C dX6_debtsNow_0 (by decide) ?_
  refine v_istore_n C (lo2 := [some _, some _, none]) dX6_debtsNow_1 rfl (Nat.le_of_ble_eq_true rfl) rfl ?_
  refine v_iconst (v := nI 0) C dX6_debtsNow_2 (by decide) ?_
  refine v_istore_n C (lo2 := [some _, some _, some _]) dX6_debtsNow_3 rfl (Nat.le_of_ble_eq_true rfl) rfl ?_
  have L4 : ∀ (t : Nat × Nat), (fun t => 0 ≤ t.1 ∧ t.1 ≤ 200 ∧ t.2 ≤ t.1 ∧ t.2 + cntG (startM m) t.1 (n - t.1) = cntG (startM m) 0 (n - 0)) t → (fun t : Nat × Nat => V X (qS (xK X) h) 4 [some (.ref (h 0)), some (.int (nI t.2)), some (.int (nI t.1))] [] g 0 0) t := by
    refine v_ind (fun t : Nat × Nat => n - t.1) ?_
    rintro ⟨i, c⟩ ih4 hI4
    try dsimp only at hI4 ⊢
    obtain ⟨i1, i2, i4, i3⟩ := hI4
    refine v_iload_n C dX6_debtsNow_4 rfl ?_
    refine v_aload_n C dX6_debtsNow_5 rfl ?_
    refine v_getiQ (x := nI n) C fl_X6_126 oi_qS_0_2 (hs) dX6_debtsNow_6 ?_
    first | refine v_icmp_geN C 29 dX6_debtsNow_9 (by decide) (by omega) (by omega) (fun c9 => ?_) (fun c9 => ?_) | refine v_icmp_ge C 29 dX6_debtsNow_9 (by decide) (fun c9 => ?_) (fun c9 => ?_)
    · refine v_iload_n C dX6_debtsNow_29 rfl ?_
      refine v_iret C F (by first | rfl | exact bI_nar _) dX6_debtsNow_30 (Nat.le_of_ble_eq_true rfl) (Nat.le_of_ble_eq_true rfl) ?_
      rw [cntG_0 (by omega), Nat.add_zero] at i3
      exact ⟨congrArg nI i3, rfl⟩
    · refine v_iload_n C dX6_debtsNow_12 rfl ?_
      refine v_aload_n C dX6_debtsNow_13 rfl ?_
      refine v_iload_n C dX6_debtsNow_14 rfl ?_
      refine v_callVi C (c_X6_begins hl hR (by omega)) ym_X6_begins ml_X6_242 emb_id_qS rfl rfl rfl rfl rfl dX6_debtsNow_15 (Nat.le_of_ble_eq_true rfl) (Nat.le_of_ble_eq_true rfl) (Nat.le_of_ble_eq_true rfl) (Nat.le_of_ble_eq_true rfl) (fun _ _ hu => hu.elim) (fun r u hu => ?_)
      obtain ⟨rfl, hu⟩ := hu
      subst u
      refine v_callSi C (c_X6_flag hl (b := startM m i)) ys_X6_flag rfl ml_X6_232 (emb_n fix_qS) rfl rfl rfl dX6_debtsNow_18 (Nat.le_of_ble_eq_true rfl) (Nat.le_of_ble_eq_true rfl) (Nat.le_of_ble_eq_true rfl) (Nat.le_of_ble_eq_true rfl) (fun _ _ hu => hu.elim) (fun r u hu => ?_)
      subst r
      first | refine v_iaddN C dX6_debtsNow_21 ?_ | refine v_iadd C dX6_debtsNow_21 ?_
      refine v_istore_n C (lo2 := [some _, some _, some _]) dX6_debtsNow_22 rfl (Nat.le_of_ble_eq_true rfl) rfl ?_
      first | refine v_iinc1 C (lo2 := [some _, some _, some _]) dX6_debtsNow_23 rfl rfl rfl ?_ | refine v_iinc C (lo2 := [some _, some _, some _]) dX6_debtsNow_23 rfl rfl rfl rfl ?_
      refine v_goto C 4 dX6_debtsNow_26 (by decide) ?_
      have hib : i < n := by omega
      rw [cntG_s hib] at i3
      have hfl : fl ((startM m) i) = (if (startM m) i = true then 1 else 0) := rfl
      have hf1 : fl ((startM m) i) ≤ 1 := by rw [hfl]; split <;> omega
      rw [← hfl] at i3
      exact ih4 (i + 1, c + fl ((startM m) i)) (by show n - (i + 1) < n - i; omega) ⟨by show 0 ≤ i + 1; omega, by show i + 1 ≤ 200; omega, by show c + fl ((startM m) i) ≤ i + 1; omega, by show c + fl ((startM m) i) + cntG (startM m) (i + 1) (n - (i + 1)) = _; omega⟩
  exact L4 (0, 0) ⟨Nat.le_refl _, by show 0 ≤ 200; omega, by show 0 ≤ 0; omega, Nat.zero_add _⟩
set_option maxHeartbeats 16000000 in
theorem c_X6_debtLong {l : Launch} (hl : l.stackTraces = false) {κ : Kp} {h : Nat → Nat} {g : G} {m : Mg} {n p : Nat} (hR : RowR m (g 1)) (hs : g 0 2 = nI n) (h96 : n ≤ 96) (hp : p < n) : Ct SS MM l κ yX6_debtLong cX6_debtLong 3 (some FieldType.int) 2 0 0 [.ref (h 0), .int (nI p)] (qS κ h) g ri (fun r u => r = nI (lenM m n p) ∧ u = g) (fun _ _ => False) := by
  refine Ct.of (own := RX6) (by decide) rfl hl (by intro v hv; simp only [List.mem_cons, List.not_mem_nil, or_false] at hv; first | (rcases hv with rfl | rfl | rfl | rfl | rfl | rfl <;> rfl) | (rcases hv with rfl | rfl | rfl | rfl | rfl <;> rfl) | (rcases hv with rfl | rfl | rfl | rfl <;> rfl) | (rcases hv with rfl | rfl | rfl <;> rfl) | (rcases hv with rfl | rfl <;> rfl) | (subst hv; rfl) | exact hv.elim) (Nat.le_of_ble_eq_true rfl) (fun X hxl hxk C F N => ?_)
  subst hxl hxk
  show V X (qS (xK X) h) 0 [some (.ref (h 0)), some (.int (nI p)), none] [] g 0 0
  refine v_iconst (v := nI 1) C dX6_debtLong_0 (by decide) ?_
  refine v_istore_n C (lo2 := [some _, some _, some _]) dX6_debtLong_1 rfl (Nat.le_of_ble_eq_true rfl) rfl ?_
  have L2 : ∀ (t : Nat), (fun t => 1 ≤ t ∧ t ≤ 96 ∧ t + runM m n (96 - t) (p + t) = lenM m n p) t → (fun t : Nat => V X (qS (xK X) h) 2 [some (.ref (h 0)), some (.int (nI p)), some (.int (nI t))] [] g 0 0) t := by
    refine v_ind (fun t : Nat => 96 - t) ?_
    rintro t ih2 hI2
    try dsimp only at hI2 ⊢
    obtain ⟨i1, i2, i3⟩ := hI2
    have hun : p + t < n → runM m n (96 - t) (p + t) = if contM m (p + t) then 1 + runM m n (96 - (t + 1)) (p + t + 1) else 0 := fun z => by
      rw [show 96 - t = (96 - (t + 1)) + 1 by omega]
      show (if decide (p + t < n) && contM m (p + t) then 1 + runM m n (96 - (t + 1)) (p + t + 1) else 0) = _
      rw [decide_eq_true z, Bool.true_and]
    refine v_iload_n C dX6_debtLong_2 rfl ?_
    refine v_iload_n C dX6_debtLong_3 rfl ?_
    first | refine v_iaddN C dX6_debtLong_4 ?_ | refine v_iadd C dX6_debtLong_4 ?_
    refine v_aload_n C dX6_debtLong_5 rfl ?_
    refine v_getiQ (x := nI n) C fl_X6_126 oi_qS_0_2 (hs) dX6_debtLong_6 ?_
    first | refine v_icmp_geN C 28 dX6_debtLong_9 (by decide) (by omega) (by omega) (fun c9 => ?_) (fun c9 => ?_) | refine v_icmp_ge C 28 dX6_debtLong_9 (by decide) (fun c9 => ?_) (fun c9 => ?_)
    · refine v_iload_n C dX6_debtLong_28 rfl ?_
      refine v_iret C F (by first | rfl | exact bI_nar _) dX6_debtLong_29 (Nat.le_of_ble_eq_true rfl) (Nat.le_of_ble_eq_true rfl) ?_
      first
      | (rw [hun (by omega), c19, if_neg Bool.false_ne_true, Nat.add_zero] at i3; exact ⟨by rw [i3], rfl⟩)
      | (rw [runM_end _ _ (by omega), Nat.add_zero] at i3; exact ⟨by rw [i3], rfl⟩)
    · refine v_aload_n C dX6_debtLong_12 rfl ?_
      refine v_iload_n C dX6_debtLong_13 rfl ?_
      refine v_iload_n C dX6_debtLong_14 rfl ?_
      first | refine v_iaddN C dX6_debtLong_15 ?_ | refine v_iadd C dX6_debtLong_15 ?_
      refine v_callVi C (c_X6_goesOnWith hl (p := p + t) hR (by omega)) ym_X6_goesOnWith ml_X6_239 emb_id_qS rfl rfl rfl rfl rfl dX6_debtLong_16 (Nat.le_of_ble_eq_true rfl) (Nat.le_of_ble_eq_true rfl) (Nat.le_of_ble_eq_true rfl) (Nat.le_of_ble_eq_true rfl) (fun _ _ hu => hu.elim) (fun r u hu => ?_)
      obtain ⟨rfl, hu⟩ := hu
      subst u
      refine v_if_eqB C 28 dX6_debtLong_19 (by decide) (fun c19 => ?_) (fun c19 => ?_)
      · refine v_iload_n C dX6_debtLong_28 rfl ?_
        refine v_iret C F (by first | rfl | exact bI_nar _) dX6_debtLong_29 (Nat.le_of_ble_eq_true rfl) (Nat.le_of_ble_eq_true rfl) ?_
        first
        | (rw [hun (by omega), c19, if_neg Bool.false_ne_true, Nat.add_zero] at i3; exact ⟨by rw [i3], rfl⟩)
        | (rw [runM_end _ _ (by omega), Nat.add_zero] at i3; exact ⟨by rw [i3], rfl⟩)
      · first | refine v_iinc1 C (lo2 := [some _, some _, some _]) dX6_debtLong_22 rfl rfl rfl ?_ | refine v_iinc C (lo2 := [some _, some _, some _]) dX6_debtLong_22 rfl rfl rfl rfl ?_
        refine v_goto C 2 dX6_debtLong_25 (by decide) ?_
        rw [hun (by omega), c19, if_pos rfl] at i3
        exact ih2 (t + 1) (by show 96 - (t + 1) < 96 - t; omega) ⟨by omega, by omega, by rw [show p + (t + 1) = p + t + 1 by omega]; omega⟩
  exact L2 1 ⟨Nat.le_refl _, by omega, rfl⟩
set_option maxHeartbeats 16000000 in
theorem c_X6_isAhead {l : Launch} (hl : l.stackTraces = false) {κ : Kp} {h : Nat → Nat} {g : G} {m : Mg} {n p q : Nat} (hR : RowR m (g 1)) (hI : IM m n) (hp : p < n) (hq : q < n) : Ct SS MM l κ yX6_isAhead cX6_isAhead 4 (some FieldType.boolean) 2 0 0 [.ref (h 0), .int (nI p), .int (nI q)] (qS κ h) g ri (fun r u => r = bI (decide (rkM m (m 5 2) p < rkM m (m 5 2) q)) ∧ u = g) (fun _ _ => False) := by
  refine Ct.of (own := RX6) (by decide) rfl hl (by intro v hv; simp only [List.mem_cons, List.not_mem_nil, or_false] at hv; first | (rcases hv with rfl | rfl | rfl | rfl | rfl | rfl <;> rfl) | (rcases hv with rfl | rfl | rfl | rfl | rfl <;> rfl) | (rcases hv with rfl | rfl | rfl | rfl <;> rfl) | (rcases hv with rfl | rfl | rfl <;> rfl) | (rcases hv with rfl | rfl <;> rfl) | (subst hv; rfl) | exact hv.elim) (Nat.le_of_ble_eq_true rfl) (fun X hxl hxk C F N => ?_)
  subst hxl hxk
  show V X (qS (xK X) h) 0 [some (.ref (h 0)), some (.int (nI p)), some (.int (nI q)), none] [] g 0 0
  have h96 := hI.2.1
  have hh1 := hops_lt hI hp
  have hh2 := hops_lt hI hq
  generalize hx : m 5 2 = x
  refine v_aload_n C dX6_isAhead_0 rfl ?_
  refine v_getr C fl_X6_7 or_qS_0_3 dX6_isAhead_1 ?_
  refine v_sipush (v := nI 386) C dX6_isAhead_4 (by decide) ?_
  refine v_ialdQ (x := x) C ar_qS_1 (by decide) _ ((hR.t (k := 2) (by decide)).trans hx) ?_ rfl dX6_isAhead_7 ?_
  · omega
  refine v_istore_n C (lo2 := [some _, some _, some _, some _]) dX6_isAhead_8 rfl (Nat.le_of_ble_eq_true rfl) rfl ?_
  refine v_iload_n C dX6_isAhead_9 rfl ?_
  refine v_if_ne C 42 dX6_isAhead_10 (by decide) (fun c10 => ?_) (fun c10 => ?_)
  · refine v_iload_n C dX6_isAhead_42 rfl ?_
    refine v_iconst (v := nI 2) C dX6_isAhead_43 (by decide) ?_
    refine v_icmp_ne C 60 dX6_isAhead_44 (by decide) (fun c44 => ?_) (fun c44 => ?_)
    · refine v_iload_n C dX6_isAhead_60 rfl ?_
      refine v_iconst (v := nI 3) C dX6_isAhead_61 (by decide) ?_
      refine v_icmp_ne C 82 dX6_isAhead_62 (by decide) (fun c62 => ?_) (fun c62 => ?_)
      · refine v_iconst (v := nI 0) C dX6_isAhead_82 (by decide) ?_
        refine v_iret C F (by first | rfl | exact bI_nar _) dX6_isAhead_83 (Nat.le_of_ble_eq_true rfl) (Nat.le_of_ble_eq_true rfl) ?_
        first
        | exact absurd c62 n3
        | (have e1 : ∀ j, rkM m x j = -(hopsM m j : Int) := fun j => (if_neg c10).trans (if_pos c44)
           rw [hx, e1, e1]
           first
           | exact ⟨bI_t (decide_eq_true (by omega)), rfl⟩
           | exact ⟨bI_f (decide_eq_false (by omega)), rfl⟩)
        | (have e1 : ∀ j, rkM m x j = (hopsM m j : Int) := fun j => (if_neg c10).trans ((if_neg c44).trans (if_pos c62))
           rw [hx, e1, e1]
           first
           | exact ⟨bI_t (decide_eq_true (by omega)), rfl⟩
           | exact ⟨bI_f (decide_eq_false (by omega)), rfl⟩)
        | (have e1 : ∀ j, rkM m x j = 0 := fun j => (if_neg c10).trans ((if_neg c44).trans (if_neg c62))
           rw [hx, e1, e1]
           exact ⟨bI_f (decide_eq_false (by omega)), rfl⟩)
      · refine v_aload_n C dX6_isAhead_65 rfl ?_
        refine v_iload_n C dX6_isAhead_66 rfl ?_
        refine v_callVi C (c_X6_hopsOf hl hR hI hp) ym_X6_hopsOf ml_X6_229 emb_id_qS rfl rfl rfl rfl rfl dX6_isAhead_67 (Nat.le_of_ble_eq_true rfl) (Nat.le_of_ble_eq_true rfl) (Nat.le_of_ble_eq_true rfl) (Nat.le_of_ble_eq_true rfl) (fun _ _ hu => hu.elim) (fun r u hu => ?_)
        obtain ⟨rfl, hu⟩ := hu
        subst u
        refine v_aload_n C dX6_isAhead_70 rfl ?_
        refine v_iload_n C dX6_isAhead_71 rfl ?_
        refine v_callVi C (c_X6_hopsOf hl hR hI hq) ym_X6_hopsOf ml_X6_229 emb_id_qS rfl rfl rfl rfl rfl dX6_isAhead_72 (Nat.le_of_ble_eq_true rfl) (Nat.le_of_ble_eq_true rfl) (Nat.le_of_ble_eq_true rfl) (Nat.le_of_ble_eq_true rfl) (fun _ _ hu => hu.elim) (fun r u hu => ?_)
        obtain ⟨rfl, hu⟩ := hu
        subst u
        first | refine v_icmp_geN C 82 dX6_isAhead_75 (by decide) (by omega) (by omega) (fun c75 => ?_) (fun c75 => ?_) | refine v_icmp_ge C 82 dX6_isAhead_75 (by decide) (fun c75 => ?_) (fun c75 => ?_)
        · refine v_iconst (v := nI 0) C dX6_isAhead_82 (by decide) ?_
          refine v_iret C F (by first | rfl | exact bI_nar _) dX6_isAhead_83 (Nat.le_of_ble_eq_true rfl) (Nat.le_of_ble_eq_true rfl) ?_
          first
          | exact absurd c62 n3
          | (have e1 : ∀ j, rkM m x j = -(hopsM m j : Int) := fun j => (if_neg c10).trans (if_pos c44)
             rw [hx, e1, e1]
             first
             | exact ⟨bI_t (decide_eq_true (by omega)), rfl⟩
             | exact ⟨bI_f (decide_eq_false (by omega)), rfl⟩)
          | (have e1 : ∀ j, rkM m x j = (hopsM m j : Int) := fun j => (if_neg c10).trans ((if_neg c44).trans (if_pos c62))
             rw [hx, e1, e1]
             first
             | exact ⟨bI_t (decide_eq_true (by omega)), rfl⟩
             | exact ⟨bI_f (decide_eq_false (by omega)), rfl⟩)
          | (have e1 : ∀ j, rkM m x j = 0 := fun j => (if_neg c10).trans ((if_neg c44).trans (if_neg c62))
             rw [hx, e1, e1]
             exact ⟨bI_f (decide_eq_false (by omega)), rfl⟩)
        · refine v_iconst (v := nI 1) C dX6_isAhead_78 (by decide) ?_
          refine v_goto C 83 dX6_isAhead_79 (by decide) ?_
          refine v_iret C F (by first | rfl | exact bI_nar _) dX6_isAhead_83 (Nat.le_of_ble_eq_true rfl) (Nat.le_of_ble_eq_true rfl) ?_
          first
          | exact absurd c62 n3
          | (have e1 : ∀ j, rkM m x j = -(hopsM m j : Int) := fun j => (if_neg c10).trans (if_pos c44)
             rw [hx, e1, e1]
             first
             | exact ⟨bI_t (decide_eq_true (by omega)), rfl⟩
             | exact ⟨bI_f (decide_eq_false (by omega)), rfl⟩)
          | (have e1 : ∀ j, rkM m x j = (hopsM m j : Int) := fun j => (if_neg c10).trans ((if_neg c44).trans (if_pos c62))
             rw [hx, e1, e1]
             first
             | exact ⟨bI_t (decide_eq_true (by omega)), rfl⟩
             | exact ⟨bI_f (decide_eq_false (by omega)), rfl⟩)
          | (have e1 : ∀ j, rkM m x j = 0 := fun j => (if_neg c10).trans ((if_neg c44).trans (if_neg c62))
             rw [hx, e1, e1]
             exact ⟨bI_f (decide_eq_false (by omega)), rfl⟩)
    · have n3 : ¬ x = nI 3 := fun z => by rw [c44] at z; revert z; decide
      refine v_aload_n C dX6_isAhead_47 rfl ?_
      refine v_iload_n C dX6_isAhead_48 rfl ?_
      refine v_callVi C (c_X6_hopsOf hl hR hI hp) ym_X6_hopsOf ml_X6_229 emb_id_qS rfl rfl rfl rfl rfl dX6_isAhead_49 (Nat.le_of_ble_eq_true rfl) (Nat.le_of_ble_eq_true rfl) (Nat.le_of_ble_eq_true rfl) (Nat.le_of_ble_eq_true rfl) (fun _ _ hu => hu.elim) (fun r u hu => ?_)
      obtain ⟨rfl, hu⟩ := hu
      subst u
      refine v_aload_n C dX6_isAhead_52 rfl ?_
      refine v_iload_n C dX6_isAhead_53 rfl ?_
      refine v_callVi C (c_X6_hopsOf hl hR hI hq) ym_X6_hopsOf ml_X6_229 emb_id_qS rfl rfl rfl rfl rfl dX6_isAhead_54 (Nat.le_of_ble_eq_true rfl) (Nat.le_of_ble_eq_true rfl) (Nat.le_of_ble_eq_true rfl) (Nat.le_of_ble_eq_true rfl) (fun _ _ hu => hu.elim) (fun r u hu => ?_)
      obtain ⟨rfl, hu⟩ := hu
      subst u
      first | refine v_icmp_gtN C 78 dX6_isAhead_57 (by decide) (by omega) (by omega) (fun c57 => ?_) (fun c57 => ?_) | refine v_icmp_gt C 78 dX6_isAhead_57 (by decide) (fun c57 => ?_) (fun c57 => ?_)
      · refine v_iconst (v := nI 1) C dX6_isAhead_78 (by decide) ?_
        refine v_goto C 83 dX6_isAhead_79 (by decide) ?_
        refine v_iret C F (by first | rfl | exact bI_nar _) dX6_isAhead_83 (Nat.le_of_ble_eq_true rfl) (Nat.le_of_ble_eq_true rfl) ?_
        first
        | exact absurd c62 n3
        | (have e1 : ∀ j, rkM m x j = -(hopsM m j : Int) := fun j => (if_neg c10).trans (if_pos c44)
           rw [hx, e1, e1]
           first
           | exact ⟨bI_t (decide_eq_true (by omega)), rfl⟩
           | exact ⟨bI_f (decide_eq_false (by omega)), rfl⟩)
        | (have e1 : ∀ j, rkM m x j = (hopsM m j : Int) := fun j => (if_neg c10).trans ((if_neg c44).trans (if_pos c62))
           rw [hx, e1, e1]
           first
           | exact ⟨bI_t (decide_eq_true (by omega)), rfl⟩
           | exact ⟨bI_f (decide_eq_false (by omega)), rfl⟩)
        | (have e1 : ∀ j, rkM m x j = 0 := fun j => (if_neg c10).trans ((if_neg c44).trans (if_neg c62))
           rw [hx, e1, e1]
           exact ⟨bI_f (decide_eq_false (by omega)), rfl⟩)
      · refine v_iload_n C dX6_isAhead_60 rfl ?_
        refine v_iconst (v := nI 3) C dX6_isAhead_61 (by decide) ?_
        refine v_icmp_ne C 82 dX6_isAhead_62 (by decide) (fun c62 => ?_) (fun c62 => ?_)
        · refine v_iconst (v := nI 0) C dX6_isAhead_82 (by decide) ?_
          refine v_iret C F (by first | rfl | exact bI_nar _) dX6_isAhead_83 (Nat.le_of_ble_eq_true rfl) (Nat.le_of_ble_eq_true rfl) ?_
          first
          | exact absurd c62 n3
          | (have e1 : ∀ j, rkM m x j = -(hopsM m j : Int) := fun j => (if_neg c10).trans (if_pos c44)
             rw [hx, e1, e1]
             first
             | exact ⟨bI_t (decide_eq_true (by omega)), rfl⟩
             | exact ⟨bI_f (decide_eq_false (by omega)), rfl⟩)
          | (have e1 : ∀ j, rkM m x j = (hopsM m j : Int) := fun j => (if_neg c10).trans ((if_neg c44).trans (if_pos c62))
             rw [hx, e1, e1]
             first
             | exact ⟨bI_t (decide_eq_true (by omega)), rfl⟩
             | exact ⟨bI_f (decide_eq_false (by omega)), rfl⟩)
          | (have e1 : ∀ j, rkM m x j = 0 := fun j => (if_neg c10).trans ((if_neg c44).trans (if_neg c62))
             rw [hx, e1, e1]
             exact ⟨bI_f (decide_eq_false (by omega)), rfl⟩)
        · refine v_aload_n C dX6_isAhead_65 rfl ?_
          refine v_iload_n C dX6_isAhead_66 rfl ?_
          refine v_callVi C (c_X6_hopsOf hl hR hI hp) ym_X6_hopsOf ml_X6_229 emb_id_qS rfl rfl rfl rfl rfl dX6_isAhead_67 (Nat.le_of_ble_eq_true rfl) (Nat.le_of_ble_eq_true rfl) (Nat.le_of_ble_eq_true rfl) (Nat.le_of_ble_eq_true rfl) (fun _ _ hu => hu.elim) (fun r u hu => ?_)
          obtain ⟨rfl, hu⟩ := hu
          subst u
          refine v_aload_n C dX6_isAhead_70 rfl ?_
          refine v_iload_n C dX6_isAhead_71 rfl ?_
          refine v_callVi C (c_X6_hopsOf hl hR hI hq) ym_X6_hopsOf ml_X6_229 emb_id_qS rfl rfl rfl rfl rfl dX6_isAhead_72 (Nat.le_of_ble_eq_true rfl) (Nat.le_of_ble_eq_true rfl) (Nat.le_of_ble_eq_true rfl) (Nat.le_of_ble_eq_true rfl) (fun _ _ hu => hu.elim) (fun r u hu => ?_)
          obtain ⟨rfl, hu⟩ := hu
          subst u
          first | refine v_icmp_geN C 82 dX6_isAhead_75 (by decide) (by omega) (by omega) (fun c75 => ?_) (fun c75 => ?_) | refine v_icmp_ge C 82 dX6_isAhead_75 (by decide) (fun c75 => ?_) (fun c75 => ?_)
          · refine v_iconst (v := nI 0) C dX6_isAhead_82 (by decide) ?_
            refine v_iret C F (by first | rfl | exact bI_nar _) dX6_isAhead_83 (Nat.le_of_ble_eq_true rfl) (Nat.le_of_ble_eq_true rfl) ?_
            first
            | exact absurd c62 n3
            | (have e1 : ∀ j, rkM m x j = -(hopsM m j : Int) := fun j => (if_neg c10).trans (if_pos c44)
               rw [hx, e1, e1]
               first
               | exact ⟨bI_t (decide_eq_true (by omega)), rfl⟩
               | exact ⟨bI_f (decide_eq_false (by omega)), rfl⟩)
            | (have e1 : ∀ j, rkM m x j = (hopsM m j : Int) := fun j => (if_neg c10).trans ((if_neg c44).trans (if_pos c62))
               rw [hx, e1, e1]
               first
               | exact ⟨bI_t (decide_eq_true (by omega)), rfl⟩
               | exact ⟨bI_f (decide_eq_false (by omega)), rfl⟩)
            | (have e1 : ∀ j, rkM m x j = 0 := fun j => (if_neg c10).trans ((if_neg c44).trans (if_neg c62))
               rw [hx, e1, e1]
               exact ⟨bI_f (decide_eq_false (by omega)), rfl⟩)
          · refine v_iconst (v := nI 1) C dX6_isAhead_78 (by decide) ?_
            refine v_goto C 83 dX6_isAhead_79 (by decide) ?_
            refine v_iret C F (by first | rfl | exact bI_nar _) dX6_isAhead_83 (Nat.le_of_ble_eq_true rfl) (Nat.le_of_ble_eq_true rfl) ?_
            first
            | exact absurd c62 n3
            | (have e1 : ∀ j, rkM m x j = -(hopsM m j : Int) := fun j => (if_neg c10).trans (if_pos c44)
               rw [hx, e1, e1]
               first
               | exact ⟨bI_t (decide_eq_true (by omega)), rfl⟩
               | exact ⟨bI_f (decide_eq_false (by omega)), rfl⟩)
            | (have e1 : ∀ j, rkM m x j = (hopsM m j : Int) := fun j => (if_neg c10).trans ((if_neg c44).trans (if_pos c62))
               rw [hx, e1, e1]
               first
               | exact ⟨bI_t (decide_eq_true (by omega)), rfl⟩
               | exact ⟨bI_f (decide_eq_false (by omega)), rfl⟩)
            | (have e1 : ∀ j, rkM m x j = 0 := fun j => (if_neg c10).trans ((if_neg c44).trans (if_neg c62))
               rw [hx, e1, e1]
               exact ⟨bI_f (decide_eq_false (by omega)), rfl⟩)
  · refine v_aload_n C dX6_isAhead_13 rfl ?_
    refine v_getr C fl_X6_7 or_qS_0_3 dX6_isAhead_14 ?_
    refine v_sipush (v := nI 192) C dX6_isAhead_17 (by decide) ?_
    refine v_iload_n C dX6_isAhead_20 rfl ?_
    first | refine v_iaddN C dX6_isAhead_21 ?_ | refine v_iadd C dX6_isAhead_21 ?_
    refine v_ialdQ (x := m 3 p) C ar_qS_1 (by decide) _ (hR.r (by omega)) ?_ rfl dX6_isAhead_22 ?_
    · omega
    refine v_aload_n C dX6_isAhead_23 rfl ?_
    refine v_getr C fl_X6_7 or_qS_0_3 dX6_isAhead_24 ?_
    refine v_sipush (v := nI 192) C dX6_isAhead_27 (by decide) ?_
    refine v_iload_n C dX6_isAhead_30 rfl ?_
    first | refine v_iaddN C dX6_isAhead_31 ?_ | refine v_iadd C dX6_isAhead_31 ?_
    refine v_ialdQ (x := m 3 q) C ar_qS_1 (by decide) _ (hR.r (by omega)) ?_ rfl dX6_isAhead_32 ?_
    · omega
    refine v_icmp_ge C 40 dX6_isAhead_33 (by decide) (fun c33 => ?_) (fun c33 => ?_)
    · refine v_iconst (v := nI 0) C dX6_isAhead_40 (by decide) ?_
      refine v_iret C F (by first | rfl | exact bI_nar _) dX6_isAhead_41 (Nat.le_of_ble_eq_true rfl) (Nat.le_of_ble_eq_true rfl) ?_
      have e1 : ∀ j, rkM m x j = (m 3 j).toInt := fun j => if_pos c10
      rw [hx, e1, e1]
      first
      | exact ⟨bI_t (decide_eq_true (by omega)), rfl⟩
      | exact ⟨bI_f (decide_eq_false (by omega)), rfl⟩
    · refine v_iconst (v := nI 1) C dX6_isAhead_36 (by decide) ?_
      refine v_goto C 41 dX6_isAhead_37 (by decide) ?_
      refine v_iret C F (by first | rfl | exact bI_nar _) dX6_isAhead_41 (Nat.le_of_ble_eq_true rfl) (Nat.le_of_ble_eq_true rfl) ?_
      have e1 : ∀ j, rkM m x j = (m 3 j).toInt := fun j => if_pos c10
      rw [hx, e1, e1]
      first
      | exact ⟨bI_t (decide_eq_true (by omega)), rfl⟩
      | exact ⟨bI_f (decide_eq_false (by omega)), rfl⟩
set_option maxHeartbeats 16000000 in
theorem c_X6_nextNow {l : Launch} (hl : l.stackTraces = false) {κ : Kp} {h : Nat → Nat} {g : G} {m : Mg} {n : Nat} (hR : RowR m (g 1)) (hs : g 0 2 = nI n) (hI : IM m n) : Ct SS MM l κ yX6_nextNow cX6_nextNow 3 (some FieldType.int) 3 0 0 [.ref (h 0)] (qS κ h) g ri (fun r u => r = oN (nextM m n (m 5 2)) ∧ u = g) (fun _ _ => False) := by
  refine Ct.of (own := RX6) (by decide) rfl hl (by intro v hv; simp only [List.mem_cons, List.not_mem_nil, or_false] at hv; first | (rcases hv with rfl | rfl | rfl | rfl | rfl | rfl <;> rfl) | (rcases hv with rfl | rfl | rfl | rfl | rfl <;> rfl) | (rcases hv with rfl | rfl | rfl | rfl <;> rfl) | (rcases hv with rfl | rfl | rfl <;> rfl) | (rcases hv with rfl | rfl <;> rfl) | (subst hv; rfl) | exact hv.elim) (Nat.le_of_ble_eq_true rfl) (fun X hxl hxk C F N => ?_)
  subst hxl hxk
  show V X (qS (xK X) h) 0 [some (.ref (h 0)), none, none] [] g 0 0
  have h96 := hI.2.1
  refine v_iconst (v := (-1)) C dX6_nextNow_0 (by decide) ?_
  refine v_istore_n C (lo2 := [some _, some _, none]) dX6_nextNow_1 rfl (Nat.le_of_ble_eq_true rfl) rfl ?_
  refine v_iconst (v := nI 0) C dX6_nextNow_2 (by decide) ?_
  refine v_istore_n C (lo2 := [some _, some _, some _]) dX6_nextNow_3 rfl (Nat.le_of_ble_eq_true rfl) rfl ?_
  have L4 : ∀ (t : Nat × Option Nat), (fun t => forG (nstep m (m 5 2)) t.1 (n - t.1) t.2 = nextM m n (m 5 2) ∧ (∀ q, t.2 = some q → q < t.1) ∧ t.1 ≤ n) t → (fun t : Nat × Option Nat => V X (qS (xK X) h) 4 [some (.ref (h 0)), some (.int (oN t.2)), some (.int (nI t.1))] [] g 0 0) t := by
    refine v_ind (fun t : Nat × Option Nat => n - t.1) ?_
    rintro ⟨i, b⟩ ih4 hI4
    try dsimp only at hI4 ⊢
    obtain ⟨i1, i2, i4⟩ := hI4
    refine v_iload_n C dX6_nextNow_4 rfl ?_
    refine v_aload_n C dX6_nextNow_5 rfl ?_
    refine v_getiQ (x := nI n) C fl_X6_126 oi_qS_0_2 (hs) dX6_nextNow_6 ?_
    first | refine v_icmp_geN C 46 dX6_nextNow_9 (by decide) (by omega) (by omega) (fun c9 => ?_) (fun c9 => ?_) | refine v_icmp_ge C 46 dX6_nextNow_9 (by decide) (fun c9 => ?_) (fun c9 => ?_)
    · refine v_iload_n C dX6_nextNow_46 rfl ?_
      refine v_iret C F (by first | rfl | exact bI_nar _) dX6_nextNow_47 (Nat.le_of_ble_eq_true rfl) (Nat.le_of_ble_eq_true rfl) ?_
      rw [forG_0 (by omega)] at i1
      exact ⟨by rw [i1], rfl⟩
    · refine v_aload_n C dX6_nextNow_12 rfl ?_
      refine v_iload_n C dX6_nextNow_13 rfl ?_
      refine v_callVi C (c_X6_owes hl hR (by omega)) ym_X6_owes ml_X6_217 emb_id_qS rfl rfl rfl rfl rfl dX6_nextNow_14 (Nat.le_of_ble_eq_true rfl) (Nat.le_of_ble_eq_true rfl) (Nat.le_of_ble_eq_true rfl) (Nat.le_of_ble_eq_true rfl) (fun _ _ hu => hu.elim) (fun r u hu => ?_)
      obtain ⟨rfl, hu⟩ := hu
      subst u
      refine v_if_eqB C 38 dX6_nextNow_17 (by decide) (fun c17 => ?_) (fun c17 => ?_)
      · refine v_iload_n C dX6_nextNow_38 rfl ?_
        try rw [← eo]
        refine v_istore_n C (lo2 := [some _, some _, some _]) dX6_nextNow_39 rfl (Nat.le_of_ble_eq_true rfl) rfl ?_
        first | refine v_iinc1 C (lo2 := [some _, some _, some _]) dX6_nextNow_40 rfl rfl rfl ?_ | refine v_iinc C (lo2 := [some _, some _, some _]) dX6_nextNow_40 rfl rfl rfl rfl ?_
        refine v_goto C 4 dX6_nextNow_43 (by decide) ?_
        have hib : i < n := by omega
        rw [forG_s hib] at i1
        have hmu : n - (i + 1) < n - i := by omega
        first
        | (have hz : nstep m (m 5 2) i b = some i := by
             unfold nstep
             rw [c17, if_pos rfl]
             first | (rw [hb]; exact if_pos (of_decide_eq_true c31)) | rw [hb]
           rw [hz] at i1
           exact ih4 (i + 1, some i) hmu ⟨i1, (fun q hq => by cases hq; exact Nat.lt_succ_self _), by show i + 1 ≤ n; omega⟩)
        | (have hz : nstep m (m 5 2) i b = b := by
             unfold nstep
             first
             | (rw [c17]; rfl)
             | (rw [c17, if_pos rfl]
                rw [hb]; exact if_neg (of_decide_eq_false c31))
           rw [hz] at i1
           exact ih4 (i + 1, b) hmu ⟨i1, fun q hq => by have := i2 q hq; show q < i + 1; omega, by show i + 1 ≤ n; omega⟩)
      · refine v_iload_n C dX6_nextNow_20 rfl ?_
        refine v_iconst (v := (-1)) C dX6_nextNow_21 (by decide) ?_
        refine v_icmp_eq C 34 dX6_nextNow_22 (by decide) (fun c22 => ?_) (fun c22 => ?_)
        · have hb : b = none := oN_none c22 (fun q hq => by have := i2 q hq; omega)
          refine v_iload_n C dX6_nextNow_34 rfl ?_
          refine v_goto C 39 dX6_nextNow_35 (by decide) ?_
          try rw [← eo]
          refine v_istore_n C (lo2 := [some _, some _, some _]) dX6_nextNow_39 rfl (Nat.le_of_ble_eq_true rfl) rfl ?_
          first | refine v_iinc1 C (lo2 := [some _, some _, some _]) dX6_nextNow_40 rfl rfl rfl ?_ | refine v_iinc C (lo2 := [some _, some _, some _]) dX6_nextNow_40 rfl rfl rfl rfl ?_
          refine v_goto C 4 dX6_nextNow_43 (by decide) ?_
          have hib : i < n := by omega
          rw [forG_s hib] at i1
          have hmu : n - (i + 1) < n - i := by omega
          first
          | (have hz : nstep m (m 5 2) i b = some i := by
               unfold nstep
               rw [c17, if_pos rfl]
               first | (rw [hb]; exact if_pos (of_decide_eq_true c31)) | rw [hb]
             rw [hz] at i1
             exact ih4 (i + 1, some i) hmu ⟨i1, (fun q hq => by cases hq; exact Nat.lt_succ_self _), by show i + 1 ≤ n; omega⟩)
          | (have hz : nstep m (m 5 2) i b = b := by
               unfold nstep
               first
               | (rw [c17]; rfl)
               | (rw [c17, if_pos rfl]
                  rw [hb]; exact if_neg (of_decide_eq_false c31))
             rw [hz] at i1
             exact ih4 (i + 1, b) hmu ⟨i1, fun q hq => by have := i2 q hq; show q < i + 1; omega, by show i + 1 ≤ n; omega⟩)
        · obtain ⟨q, hb⟩ := oN_some c22
          have hqi := i2 q hb
          have eo : oN b = nI q := by rw [hb]; rfl
          rw [eo]
          refine v_aload_n C dX6_nextNow_25 rfl ?_
          refine v_iload_n C dX6_nextNow_26 rfl ?_
          refine v_iload_n C dX6_nextNow_27 rfl ?_
          refine v_callVi C (c_X6_isAhead hl (p := i) (q := q) hR hI (by omega) (by omega)) ym_X6_isAhead ml_X6_257 emb_id_qS rfl rfl rfl rfl rfl dX6_nextNow_28 (Nat.le_of_ble_eq_true rfl) (Nat.le_of_ble_eq_true rfl) (Nat.le_of_ble_eq_true rfl) (Nat.le_of_ble_eq_true rfl) (fun _ _ hu => hu.elim) (fun r u hu => ?_)
          obtain ⟨rfl, hu⟩ := hu
          subst u
          refine v_if_eqB C 38 dX6_nextNow_31 (by decide) (fun c31 => ?_) (fun c31 => ?_)
          · refine v_iload_n C dX6_nextNow_38 rfl ?_
            try rw [← eo]
            refine v_istore_n C (lo2 := [some _, some _, some _]) dX6_nextNow_39 rfl (Nat.le_of_ble_eq_true rfl) rfl ?_
            first | refine v_iinc1 C (lo2 := [some _, some _, some _]) dX6_nextNow_40 rfl rfl rfl ?_ | refine v_iinc C (lo2 := [some _, some _, some _]) dX6_nextNow_40 rfl rfl rfl rfl ?_
            refine v_goto C 4 dX6_nextNow_43 (by decide) ?_
            have hib : i < n := by omega
            rw [forG_s hib] at i1
            have hmu : n - (i + 1) < n - i := by omega
            first
            | (have hz : nstep m (m 5 2) i b = some i := by
                 unfold nstep
                 rw [c17, if_pos rfl]
                 first | (rw [hb]; exact if_pos (of_decide_eq_true c31)) | rw [hb]
               rw [hz] at i1
               exact ih4 (i + 1, some i) hmu ⟨i1, (fun q hq => by cases hq; exact Nat.lt_succ_self _), by show i + 1 ≤ n; omega⟩)
            | (have hz : nstep m (m 5 2) i b = b := by
                 unfold nstep
                 first
                 | (rw [c17]; rfl)
                 | (rw [c17, if_pos rfl]
                    rw [hb]; exact if_neg (of_decide_eq_false c31))
               rw [hz] at i1
               exact ih4 (i + 1, b) hmu ⟨i1, fun q hq => by have := i2 q hq; show q < i + 1; omega, by show i + 1 ≤ n; omega⟩)
          · refine v_iload_n C dX6_nextNow_34 rfl ?_
            refine v_goto C 39 dX6_nextNow_35 (by decide) ?_
            try rw [← eo]
            refine v_istore_n C (lo2 := [some _, some _, some _]) dX6_nextNow_39 rfl (Nat.le_of_ble_eq_true rfl) rfl ?_
            first | refine v_iinc1 C (lo2 := [some _, some _, some _]) dX6_nextNow_40 rfl rfl rfl ?_ | refine v_iinc C (lo2 := [some _, some _, some _]) dX6_nextNow_40 rfl rfl rfl rfl ?_
            refine v_goto C 4 dX6_nextNow_43 (by decide) ?_
            have hib : i < n := by omega
            rw [forG_s hib] at i1
            have hmu : n - (i + 1) < n - i := by omega
            first
            | (have hz : nstep m (m 5 2) i b = some i := by
                 unfold nstep
                 rw [c17, if_pos rfl]
                 first | (rw [hb]; exact if_pos (of_decide_eq_true c31)) | rw [hb]
               rw [hz] at i1
               exact ih4 (i + 1, some i) hmu ⟨i1, (fun q hq => by cases hq; exact Nat.lt_succ_self _), by show i + 1 ≤ n; omega⟩)
            | (have hz : nstep m (m 5 2) i b = b := by
                 unfold nstep
                 first
                 | (rw [c17]; rfl)
                 | (rw [c17, if_pos rfl]
                    rw [hb]; exact if_neg (of_decide_eq_false c31))
               rw [hz] at i1
               exact ih4 (i + 1, b) hmu ⟨i1, fun q hq => by have := i2 q hq; show q < i + 1; omega, by show i + 1 ≤ n; omega⟩)
  exact L4 (0, none) ⟨rfl, (fun q hq => by cases hq), Nat.zero_le _⟩
set_option maxHeartbeats 16000000 in
theorem c_X6_deepestNow {l : Launch} (hl : l.stackTraces = false) {κ : Kp} {h : Nat → Nat} {g : G} {m : Mg} {n : Nat} (hR : RowR m (g 1)) (hs : g 0 2 = nI n) (hI : IM m n) : Ct SS MM l κ yX6_deepestNow cX6_deepestNow 3 (some FieldType.int) 2 0 0 [.ref (h 0)] (qS κ h) g ri (fun r u => r = oN (nextM m n (nI 2)) ∧ u = g) (fun _ _ => False) := by
  refine Ct.of (own := RX6) (by decide) rfl hl (by intro v hv; simp only [List.mem_cons, List.not_mem_nil, or_false] at hv; first | (rcases hv with rfl | rfl | rfl | rfl | rfl | rfl <;> rfl) | (rcases hv with rfl | rfl | rfl | rfl | rfl <;> rfl) | (rcases hv with rfl | rfl | rfl | rfl <;> rfl) | (rcases hv with rfl | rfl | rfl <;> rfl) | (rcases hv with rfl | rfl <;> rfl) | (subst hv; rfl) | exact hv.elim) (Nat.le_of_ble_eq_true rfl) (fun X hxl hxk C F N => ?_)
  subst hxl hxk
  show V X (qS (xK X) h) 0 [some (.ref (h 0)), none, none] [] g 0 0
  have h96 := hI.2.1
  have r2 : ∀ j, rkM m (nI 2) j = -(hopsM m j : Int) := fun j => (if_neg (by decide)).trans (if_pos rfl)
  refine v_iconst (v := (-1)) C dX6_deepestNow_0 (by decide) ?_
  refine v_istore_n C (lo2 := [some _, some _, none]) dX6_deepestNow_1 rfl (Nat.le_of_ble_eq_true rfl) rfl ?_
  refine v_iconst (v := nI 0) C dX6_deepestNow_2 (by decide) ?_
  refine v_istore_n C (lo2 := [some _, some _, some _]) dX6_deepestNow_3 rfl (Nat.le_of_ble_eq_true rfl) rfl ?_
  have L4 : ∀ (t : Nat × Option Nat), (fun t => forG (nstep m (nI 2)) t.1 (n - t.1) t.2 = nextM m n (nI 2) ∧ (∀ q, t.2 = some q → q < t.1) ∧ t.1 ≤ n) t → (fun t : Nat × Option Nat => V X (qS (xK X) h) 4 [some (.ref (h 0)), some (.int (oN t.2)), some (.int (nI t.1))] [] g 0 0) t := by
    refine v_ind (fun t : Nat × Option Nat => n - t.1) ?_
    rintro ⟨i, b⟩ ih4 hI4
    try dsimp only at hI4 ⊢
    obtain ⟨i1, i2, i4⟩ := hI4
    refine v_iload_n C dX6_deepestNow_4 rfl ?_
    refine v_aload_n C dX6_deepestNow_5 rfl ?_
    refine v_getiQ (x := nI n) C fl_X6_126 oi_qS_0_2 (hs) dX6_deepestNow_6 ?_
    first | refine v_icmp_geN C 50 dX6_deepestNow_9 (by decide) (by omega) (by omega) (fun c9 => ?_) (fun c9 => ?_) | refine v_icmp_ge C 50 dX6_deepestNow_9 (by decide) (fun c9 => ?_) (fun c9 => ?_)
    · refine v_iload_n C dX6_deepestNow_50 rfl ?_
      refine v_iret C F (by first | rfl | exact bI_nar _) dX6_deepestNow_51 (Nat.le_of_ble_eq_true rfl) (Nat.le_of_ble_eq_true rfl) ?_
      rw [forG_0 (by omega)] at i1
      exact ⟨by rw [i1], rfl⟩
    · refine v_aload_n C dX6_deepestNow_12 rfl ?_
      refine v_iload_n C dX6_deepestNow_13 rfl ?_
      refine v_callVi C (c_X6_owes hl hR (by omega)) ym_X6_owes ml_X6_217 emb_id_qS rfl rfl rfl rfl rfl dX6_deepestNow_14 (Nat.le_of_ble_eq_true rfl) (Nat.le_of_ble_eq_true rfl) (Nat.le_of_ble_eq_true rfl) (Nat.le_of_ble_eq_true rfl) (fun _ _ hu => hu.elim) (fun r u hu => ?_)
      obtain ⟨rfl, hu⟩ := hu
      subst u
      refine v_if_eqB C 42 dX6_deepestNow_17 (by decide) (fun c17 => ?_) (fun c17 => ?_)
      · refine v_iload_n C dX6_deepestNow_42 rfl ?_
        try rw [← eo]
        refine v_istore_n C (lo2 := [some _, some _, some _]) dX6_deepestNow_43 rfl (Nat.le_of_ble_eq_true rfl) rfl ?_
        first | refine v_iinc1 C (lo2 := [some _, some _, some _]) dX6_deepestNow_44 rfl rfl rfl ?_ | refine v_iinc C (lo2 := [some _, some _, some _]) dX6_deepestNow_44 rfl rfl rfl rfl ?_
        refine v_goto C 4 dX6_deepestNow_47 (by decide) ?_
        have hib : i < n := by omega
        rw [forG_s hib] at i1
        have hmu : n - (i + 1) < n - i := by omega
        first
        | (have hz : nstep m (nI 2) i b = some i := by
             unfold nstep
             rw [c17, if_pos rfl]
             first | (rw [hb]; exact if_pos (by show rkM m (nI 2) i < rkM m (nI 2) q; rw [r2, r2]; omega)) | rw [hb]
           rw [hz] at i1
           exact ih4 (i + 1, some i) hmu ⟨i1, (fun q hq => by cases hq; exact Nat.lt_succ_self _), by show i + 1 ≤ n; omega⟩)
        | (have hz : nstep m (nI 2) i b = b := by
             unfold nstep
             first
             | (rw [c17]; rfl)
             | (rw [c17, if_pos rfl]
                rw [hb]; exact if_neg (by show ¬ rkM m (nI 2) i < rkM m (nI 2) q; rw [r2, r2]; omega))
           rw [hz] at i1
           exact ih4 (i + 1, b) hmu ⟨i1, fun q hq => by have := i2 q hq; show q < i + 1; omega, by show i + 1 ≤ n; omega⟩)
      · refine v_iload_n C dX6_deepestNow_20 rfl ?_
        refine v_iconst (v := (-1)) C dX6_deepestNow_21 (by decide) ?_
        refine v_icmp_eq C 38 dX6_deepestNow_22 (by decide) (fun c22 => ?_) (fun c22 => ?_)
        · have hb : b = none := oN_none c22 (fun q hq => by have := i2 q hq; omega)
          refine v_iload_n C dX6_deepestNow_38 rfl ?_
          refine v_goto C 43 dX6_deepestNow_39 (by decide) ?_
          try rw [← eo]
          refine v_istore_n C (lo2 := [some _, some _, some _]) dX6_deepestNow_43 rfl (Nat.le_of_ble_eq_true rfl) rfl ?_
          first | refine v_iinc1 C (lo2 := [some _, some _, some _]) dX6_deepestNow_44 rfl rfl rfl ?_ | refine v_iinc C (lo2 := [some _, some _, some _]) dX6_deepestNow_44 rfl rfl rfl rfl ?_
          refine v_goto C 4 dX6_deepestNow_47 (by decide) ?_
          have hib : i < n := by omega
          rw [forG_s hib] at i1
          have hmu : n - (i + 1) < n - i := by omega
          first
          | (have hz : nstep m (nI 2) i b = some i := by
               unfold nstep
               rw [c17, if_pos rfl]
               first | (rw [hb]; exact if_pos (by show rkM m (nI 2) i < rkM m (nI 2) q; rw [r2, r2]; omega)) | rw [hb]
             rw [hz] at i1
             exact ih4 (i + 1, some i) hmu ⟨i1, (fun q hq => by cases hq; exact Nat.lt_succ_self _), by show i + 1 ≤ n; omega⟩)
          | (have hz : nstep m (nI 2) i b = b := by
               unfold nstep
               first
               | (rw [c17]; rfl)
               | (rw [c17, if_pos rfl]
                  rw [hb]; exact if_neg (by show ¬ rkM m (nI 2) i < rkM m (nI 2) q; rw [r2, r2]; omega))
             rw [hz] at i1
             exact ih4 (i + 1, b) hmu ⟨i1, fun q hq => by have := i2 q hq; show q < i + 1; omega, by show i + 1 ≤ n; omega⟩)
        · obtain ⟨q, hb⟩ := oN_some c22
          have hqi := i2 q hb
          have eo : oN b = nI q := by rw [hb]; rfl
          rw [eo]
          have hh1 := hops_lt hI (show i < n by omega)
          have hh2 := hops_lt hI (show q < n by omega)
          refine v_aload_n C dX6_deepestNow_25 rfl ?_
          refine v_iload_n C dX6_deepestNow_26 rfl ?_
          refine v_callVi C (c_X6_hopsOf hl hR hI (show i < n by omega)) ym_X6_hopsOf ml_X6_229 emb_id_qS rfl rfl rfl rfl rfl dX6_deepestNow_27 (Nat.le_of_ble_eq_true rfl) (Nat.le_of_ble_eq_true rfl) (Nat.le_of_ble_eq_true rfl) (Nat.le_of_ble_eq_true rfl) (fun _ _ hu => hu.elim) (fun r u hu => ?_)
          obtain ⟨rfl, hu⟩ := hu
          subst u
          refine v_aload_n C dX6_deepestNow_30 rfl ?_
          refine v_iload_n C dX6_deepestNow_31 rfl ?_
          refine v_callVi C (c_X6_hopsOf hl hR hI (show q < n by omega)) ym_X6_hopsOf ml_X6_229 emb_id_qS rfl rfl rfl rfl rfl dX6_deepestNow_32 (Nat.le_of_ble_eq_true rfl) (Nat.le_of_ble_eq_true rfl) (Nat.le_of_ble_eq_true rfl) (Nat.le_of_ble_eq_true rfl) (fun _ _ hu => hu.elim) (fun r u hu => ?_)
          obtain ⟨rfl, hu⟩ := hu
          subst u
          first | refine v_icmp_leN C 42 dX6_deepestNow_35 (by decide) (by omega) (by omega) (fun c35 => ?_) (fun c35 => ?_) | refine v_icmp_le C 42 dX6_deepestNow_35 (by decide) (fun c35 => ?_) (fun c35 => ?_)
          · refine v_iload_n C dX6_deepestNow_42 rfl ?_
            try rw [← eo]
            refine v_istore_n C (lo2 := [some _, some _, some _]) dX6_deepestNow_43 rfl (Nat.le_of_ble_eq_true rfl) rfl ?_
            first | refine v_iinc1 C (lo2 := [some _, some _, some _]) dX6_deepestNow_44 rfl rfl rfl ?_ | refine v_iinc C (lo2 := [some _, some _, some _]) dX6_deepestNow_44 rfl rfl rfl rfl ?_
            refine v_goto C 4 dX6_deepestNow_47 (by decide) ?_
            have hib : i < n := by omega
            rw [forG_s hib] at i1
            have hmu : n - (i + 1) < n - i := by omega
            first
            | (have hz : nstep m (nI 2) i b = some i := by
                 unfold nstep
                 rw [c17, if_pos rfl]
                 first | (rw [hb]; exact if_pos (by show rkM m (nI 2) i < rkM m (nI 2) q; rw [r2, r2]; omega)) | rw [hb]
               rw [hz] at i1
               exact ih4 (i + 1, some i) hmu ⟨i1, (fun q hq => by cases hq; exact Nat.lt_succ_self _), by show i + 1 ≤ n; omega⟩)
            | (have hz : nstep m (nI 2) i b = b := by
                 unfold nstep
                 first
                 | (rw [c17]; rfl)
                 | (rw [c17, if_pos rfl]
                    rw [hb]; exact if_neg (by show ¬ rkM m (nI 2) i < rkM m (nI 2) q; rw [r2, r2]; omega))
               rw [hz] at i1
               exact ih4 (i + 1, b) hmu ⟨i1, fun q hq => by have := i2 q hq; show q < i + 1; omega, by show i + 1 ≤ n; omega⟩)
          · refine v_iload_n C dX6_deepestNow_38 rfl ?_
            refine v_goto C 43 dX6_deepestNow_39 (by decide) ?_
            try rw [← eo]
            refine v_istore_n C (lo2 := [some _, some _, some _]) dX6_deepestNow_43 rfl (Nat.le_of_ble_eq_true rfl) rfl ?_
            first | refine v_iinc1 C (lo2 := [some _, some _, some _]) dX6_deepestNow_44 rfl rfl rfl ?_ | refine v_iinc C (lo2 := [some _, some _, some _]) dX6_deepestNow_44 rfl rfl rfl rfl ?_
            refine v_goto C 4 dX6_deepestNow_47 (by decide) ?_
            have hib : i < n := by omega
            rw [forG_s hib] at i1
            have hmu : n - (i + 1) < n - i := by omega
            first
            | (have hz : nstep m (nI 2) i b = some i := by
                 unfold nstep
                 rw [c17, if_pos rfl]
                 first | (rw [hb]; exact if_pos (by show rkM m (nI 2) i < rkM m (nI 2) q; rw [r2, r2]; omega)) | rw [hb]
               rw [hz] at i1
               exact ih4 (i + 1, some i) hmu ⟨i1, (fun q hq => by cases hq; exact Nat.lt_succ_self _), by show i + 1 ≤ n; omega⟩)
            | (have hz : nstep m (nI 2) i b = b := by
                 unfold nstep
                 first
                 | (rw [c17]; rfl)
                 | (rw [c17, if_pos rfl]
                    rw [hb]; exact if_neg (by show ¬ rkM m (nI 2) i < rkM m (nI 2) q; rw [r2, r2]; omega))
               rw [hz] at i1
               exact ih4 (i + 1, b) hmu ⟨i1, fun q hq => by have := i2 q hq; show q < i + 1; omega, by show i + 1 ≤ n; omega⟩)
  exact L4 (0, none) ⟨rfl, (fun q hq => by cases hq), Nat.zero_le _⟩
set_option maxHeartbeats 16000000 in
theorem c_X6_logs {l : Launch} (hl : l.stackTraces = false) {κ : Kp} {h : Nat → Nat} {g : G} {m : Mg} {kd p v : Int32} (hR : RowR m (g 1)) (hE : EvOK m) : Ct SS MM l κ yX6_logs cX6_logs 5 none 0 0 0 [.ref (h 0), .int kd, .int p, .int v] (qS κ h) g rv (fun _ u => ∃ f, u = sG g 1 f ∧ RowR (noteM m kd p v) f) (fun _ _ => False) := by
  refine Ct.of (own := RX6) (by decide) rfl hl (by intro v hv; simp only [List.mem_cons, List.not_mem_nil, or_false] at hv; first | (rcases hv with rfl | rfl | rfl | rfl | rfl | rfl <;> rfl) | (rcases hv with rfl | rfl | rfl | rfl | rfl <;> rfl) | (rcases hv with rfl | rfl | rfl | rfl <;> rfl) | (rcases hv with rfl | rfl | rfl <;> rfl) | (rcases hv with rfl | rfl <;> rfl) | (subst hv; rfl) | exact hv.elim) (Nat.le_of_ble_eq_true rfl) (fun X hxl hxk C F N => ?_)
  subst hxl hxk
  show V X (qS (xK X) h) 0 [some (.ref (h 0)), some (.int kd), some (.int p), some (.int v), none] [] g 0 0
  obtain ⟨e, he, h8⟩ := hE
  have h9 : g 1 399 = nI e := hR.n.trans h8
  refine v_aload_n C dX6_logs_0 rfl ?_
  refine v_getr C fl_X6_7 or_qS_0_3 dX6_logs_1 ?_
  refine v_sipush (v := nI 399) C dX6_logs_4 (by decide) ?_
  refine v_ialdQ (x := nI e) C ar_qS_1 (by decide) _ (h9) ?_ rfl dX6_logs_7 ?_
  · omega
  refine v_bipush (v := nI 80) C dX6_logs_8 (by decide) ?_
  first | refine v_icmp_neN C 14 dX6_logs_10 (by decide) (by omega) (by omega) (fun c10 => ?_) (fun c10 => ?_) | refine v_icmp_ne C 14 dX6_logs_10 (by decide) (fun c10 => ?_) (fun c10 => ?_)
  · refine v_sipush (v := nI 400) C dX6_logs_14 (by decide) ?_
    refine v_iconst (v := nI 3) C dX6_logs_17 (by decide) ?_
    refine v_aload_n C dX6_logs_18 rfl ?_
    refine v_getr C fl_X6_7 or_qS_0_3 dX6_logs_19 ?_
    refine v_sipush (v := nI 399) C dX6_logs_22 (by decide) ?_
    refine v_ialdQ (x := nI e) C ar_qS_1 (by decide) _ (h9) ?_ rfl dX6_logs_25 ?_
    · omega
    first | refine v_imulN C dX6_logs_26 ?_ | refine v_imul C dX6_logs_26 ?_
    first | refine v_iaddN C dX6_logs_27 ?_ | refine v_iadd C dX6_logs_27 ?_
    refine v_istore C (lo2 := [some _, some _, some _, some _, some _]) dX6_logs_28 rfl (Nat.le_of_ble_eq_true rfl) rfl ?_
    refine v_aload_n C dX6_logs_30 rfl ?_
    refine v_getr C fl_X6_7 or_qS_0_3 dX6_logs_31 ?_
    refine v_iload C dX6_logs_34 rfl ?_
    refine v_iload_n C dX6_logs_36 rfl ?_
    refine v_iast C ar_qS_1 (by decide) _ ?_ rfl dX6_logs_37 ?_
    · omega
    refine V.stt (g2 := (sG g 1 (upd (g 1) (400 + 3 * e) kd))) (rfl) ?_
    refine v_aload_n C dX6_logs_38 rfl ?_
    refine v_getr C fl_X6_7 or_qS_0_3 dX6_logs_39 ?_
    refine v_iload C dX6_logs_42 rfl ?_
    refine v_iconst (v := nI 1) C dX6_logs_44 (by decide) ?_
    first | refine v_iaddN C dX6_logs_45 ?_ | refine v_iadd C dX6_logs_45 ?_
    refine v_iload_n C dX6_logs_46 rfl ?_
    refine v_iast C ar_qS_1 (by decide) _ ?_ rfl dX6_logs_47 ?_
    · omega
    refine V.stt (g2 := (sG g 1 (upd (upd (g 1) (400 + 3 * e) kd) (400 + 3 * e + 1) p))) (sG_sG) ?_
    refine v_aload_n C dX6_logs_48 rfl ?_
    refine v_getr C fl_X6_7 or_qS_0_3 dX6_logs_49 ?_
    refine v_iload C dX6_logs_52 rfl ?_
    refine v_iconst (v := nI 2) C dX6_logs_54 (by decide) ?_
    first | refine v_iaddN C dX6_logs_55 ?_ | refine v_iadd C dX6_logs_55 ?_
    refine v_iload_n C dX6_logs_56 rfl ?_
    refine v_iast C ar_qS_1 (by decide) _ ?_ rfl dX6_logs_57 ?_
    · omega
    refine V.stt (g2 := (sG g 1 (upd (upd (upd (g 1) (400 + 3 * e) kd) (400 + 3 * e + 1) p) (400 + 3 * e + 2) v))) (sG_sG) ?_
    refine v_aload_n C dX6_logs_58 rfl ?_
    refine v_getr C fl_X6_7 or_qS_0_3 dX6_logs_59 ?_
    refine v_sipush (v := nI 399) C dX6_logs_62 (by decide) ?_
    refine v_dup2 C dX6_logs_65 rfl rfl ?_
    refine v_ialdQ (x := nI e) C ar_qS_1 (by decide) _ ((by rw [sG_at, upd_o (by omega), upd_o (by omega), upd_o (by omega)]; exact h9)) ?_ rfl dX6_logs_66 ?_
    · omega
    refine v_iconst (v := nI 1) C dX6_logs_67 (by decide) ?_
    first | refine v_iaddN C dX6_logs_68 ?_ | refine v_iadd C dX6_logs_68 ?_
    refine v_iast C ar_qS_1 (by decide) _ ?_ rfl dX6_logs_69 ?_
    · omega
    refine V.stt (g2 := (sG g 1 (upd (upd (upd (upd (g 1) (400 + 3 * e) kd) (400 + 3 * e + 1) p) (400 + 3 * e + 2) v) 399 (nI (e + 1))))) (sG_sG) ?_
    refine v_vret C F dX6_logs_70 (Nat.le_of_ble_eq_true rfl) (Nat.le_of_ble_eq_true rfl) ?_
    exact ⟨_, rfl, Row_note hR h8 (by omega)⟩
  · have he80 : e = 80 := c10
    refine v_vret C F dX6_logs_13 (Nat.le_of_ble_eq_true rfl) (Nat.le_of_ble_eq_true rfl) ?_
    exact ⟨g 1, (sG_id rfl).symm, Row_note80 hR (by rw [h8, he80])⟩
set_option maxHeartbeats 16000000 in
theorem c_X6_notes {l : Launch} (hl : l.stackTraces = false) {κ : Kp} {h : Nat → Nat} {g : G} {m : Mg} {k p : Nat} (hR : RowR m (g 1)) (hE : EvOK m) (hk : k = 1 ∨ k = 2 ∨ k = 3) (hp : p < 96) : Ct SS MM l κ yX6_notes cX6_notes 3 none 1 0 0 [.ref (h 0), .int (nI k), .int (nI p)] (qS κ h) g rv (fun _ u => ∃ f, u = sG g 1 f ∧ RowR (noteM (cpM m k) (nI k) (nI p) (m 1 p)) f) (fun _ _ => False) := by
  refine Ct.of (own := RX6) (by decide) rfl hl (by intro v hv; simp only [List.mem_cons, List.not_mem_nil, or_false] at hv; first | (rcases hv with rfl | rfl | rfl | rfl | rfl | rfl <;> rfl) | (rcases hv with rfl | rfl | rfl | rfl | rfl <;> rfl) | (rcases hv with rfl | rfl | rfl | rfl <;> rfl) | (rcases hv with rfl | rfl | rfl <;> rfl) | (rcases hv with rfl | rfl <;> rfl) | (subst hv; rfl) | exact hv.elim) (Nat.le_of_ble_eq_true rfl) (fun X hxl hxk C F N => ?_)
  subst hxl hxk
  show V X (qS (xK X) h) 0 [some (.ref (h 0)), some (.int (nI k)), some (.int (nI p))] [] g 0 0
  refine v_aload_n C dX6_notes_0 rfl ?_
  refine v_getr C fl_X6_7 or_qS_0_3 dX6_notes_1 ?_
  refine v_sipush (v := nI 392) C dX6_notes_4 (by decide) ?_
  refine v_iload_n C dX6_notes_7 rfl ?_
  first | refine v_iaddN C dX6_notes_8 ?_ | refine v_iadd C dX6_notes_8 ?_
  refine v_iconst (v := nI 1) C dX6_notes_9 (by decide) ?_
  first | refine v_isubN C dX6_notes_10 (by omega) ?_ | refine v_isub C dX6_notes_10 ?_
  refine v_dup2 C dX6_notes_11 rfl rfl ?_
  refine v_ialdQ (x := m 6 (k + 1)) C ar_qS_1 (by decide) (390 + (k + 1)) (hR.a (k := k + 1) (by omega)) ?_ (congrArg nI (by omega)) dX6_notes_12 ?_
  · omega
  refine v_iconst (v := nI 1) C dX6_notes_13 (by decide) ?_
  first | refine v_iaddN C dX6_notes_14 ?_ | refine v_iadd C dX6_notes_14 ?_
  refine v_iast C ar_qS_1 (by decide) (391 + k) ?_ (congrArg nI (by omega)) dX6_notes_15 ?_
  · omega
  refine V.stt (g2 := (sG g 1 (upd (g 1) (391 + k) (m 6 (k + 1) + nI 1)))) (rfl) ?_
  refine v_aload_n C dX6_notes_16 rfl ?_
  refine v_getr C fl_X6_7 or_qS_0_3 dX6_notes_17 ?_
  refine v_sipush (v := nI 397) C dX6_notes_20 (by decide) ?_
  refine v_dup2 C dX6_notes_23 rfl rfl ?_
  refine v_ialdQ (x := m 6 7) C ar_qS_1 (by decide) _ ((by rw [sG_at, upd_o (by omega)]; exact hR.a (k := 7) (by decide))) ?_ rfl dX6_notes_24 ?_
  · omega
  refine v_iload_n C dX6_notes_25 rfl ?_
  refine v_iconst (v := nI 1) C dX6_notes_26 (by decide) ?_
  first | refine v_icmp_neN C 34 dX6_notes_27 (by decide) (by omega) (by omega) (fun c27 => ?_) (fun c27 => ?_) | refine v_icmp_ne C 34 dX6_notes_27 (by decide) (fun c27 => ?_) (fun c27 => ?_)
  · skip
    refine v_iload_n C dX6_notes_34 rfl ?_
    refine v_iconst (v := nI 2) C dX6_notes_35 (by decide) ?_
    first | refine v_icmp_neN C 43 dX6_notes_36 (by decide) (by omega) (by omega) (fun c36 => ?_) (fun c36 => ?_) | refine v_icmp_ne C 43 dX6_notes_36 (by decide) (fun c36 => ?_) (fun c36 => ?_)
    · refine v_iconst (v := nI 2) C dX6_notes_43 (by decide) ?_
      skip
      first | refine v_iaddN C dX6_notes_44 ?_ | refine v_iadd C dX6_notes_44 ?_
      refine v_iast C ar_qS_1 (by decide) _ ?_ rfl dX6_notes_45 ?_
      · omega
      refine V.stt (g2 := sG g 1 (upd (upd (g 1) (391 + k) (m 6 (k + 1) + nI 1)) 397 (m 6 7 + (if k = 1 then nI 1 else if k = 2 then nI 3 else nI 2)))) (by first | (rw [if_pos (show k = 1 by omega)]; exact sG_sG) | (rw [if_neg (show ¬ k = 1 by omega), if_pos (show k = 2 by omega)]; exact sG_sG) | (rw [if_neg (show ¬ k = 1 by omega), if_neg (show ¬ k = 2 by omega)]; exact sG_sG)) ?_
      refine v_aload_n C dX6_notes_46 rfl ?_
      refine v_iload_n C dX6_notes_47 rfl ?_
      refine v_iload_n C dX6_notes_48 rfl ?_
      refine v_aload_n C dX6_notes_49 rfl ?_
      refine v_getr C fl_X6_7 or_qS_0_3 dX6_notes_50 ?_
      refine v_iconst (v := nI 0) C dX6_notes_53 (by decide) ?_
      refine v_iload_n C dX6_notes_54 rfl ?_
      first | refine v_iaddN C dX6_notes_55 ?_ | refine v_iadd C dX6_notes_55 ?_
      refine v_ialdQ (x := m 1 p) C ar_qS_1 (by decide) _ ((by rw [sG_at, upd_o (by omega), upd_o (by omega)]; exact hR.b0 hp)) ?_ rfl dX6_notes_56 ?_
      · omega
      refine v_callVv C (c_X6_logs hl (g := sG g 1 (upd (upd (g 1) (391 + k) (m 6 (k + 1) + nI 1)) 397 (m 6 7 + (if k = 1 then nI 1 else if k = 2 then nI 3 else nI 2)))) (m := cpM m k) (Row_cp hR hk) (EvOK.of hE (by rw [cpM_c (by decide)]))) ym_X6_logs ml_X6_272 emb_id_qS rfl rfl rfl rfl rfl dX6_notes_57 (Nat.le_of_ble_eq_true rfl) (Nat.le_of_ble_eq_true rfl) (Nat.le_of_ble_eq_true rfl) (Nat.le_of_ble_eq_true rfl) (fun _ _ hu => hu.elim) (fun r u hu => ?_)
      obtain ⟨f2, hu, hR2⟩ := hu
      subst u
      refine v_vret C F dX6_notes_60 (Nat.le_of_ble_eq_true rfl) (Nat.le_of_ble_eq_true rfl) ?_
      exact ⟨f2, sG_sG, hR2⟩
    · refine v_iconst (v := nI 3) C dX6_notes_39 (by decide) ?_
      refine v_goto C 44 dX6_notes_40 (by decide) ?_
      skip
      first | refine v_iaddN C dX6_notes_44 ?_ | refine v_iadd C dX6_notes_44 ?_
      refine v_iast C ar_qS_1 (by decide) _ ?_ rfl dX6_notes_45 ?_
      · omega
      refine V.stt (g2 := sG g 1 (upd (upd (g 1) (391 + k) (m 6 (k + 1) + nI 1)) 397 (m 6 7 + (if k = 1 then nI 1 else if k = 2 then nI 3 else nI 2)))) (by first | (rw [if_pos (show k = 1 by omega)]; exact sG_sG) | (rw [if_neg (show ¬ k = 1 by omega), if_pos (show k = 2 by omega)]; exact sG_sG) | (rw [if_neg (show ¬ k = 1 by omega), if_neg (show ¬ k = 2 by omega)]; exact sG_sG)) ?_
      refine v_aload_n C dX6_notes_46 rfl ?_
      refine v_iload_n C dX6_notes_47 rfl ?_
      refine v_iload_n C dX6_notes_48 rfl ?_
      refine v_aload_n C dX6_notes_49 rfl ?_
      refine v_getr C fl_X6_7 or_qS_0_3 dX6_notes_50 ?_
      refine v_iconst (v := nI 0) C dX6_notes_53 (by decide) ?_
      refine v_iload_n C dX6_notes_54 rfl ?_
      first | refine v_iaddN C dX6_notes_55 ?_ | refine v_iadd C dX6_notes_55 ?_
      refine v_ialdQ (x := m 1 p) C ar_qS_1 (by decide) _ ((by rw [sG_at, upd_o (by omega), upd_o (by omega)]; exact hR.b0 hp)) ?_ rfl dX6_notes_56 ?_
      · omega
      refine v_callVv C (c_X6_logs hl (g := sG g 1 (upd (upd (g 1) (391 + k) (m 6 (k + 1) + nI 1)) 397 (m 6 7 + (if k = 1 then nI 1 else if k = 2 then nI 3 else nI 2)))) (m := cpM m k) (Row_cp hR hk) (EvOK.of hE (by rw [cpM_c (by decide)]))) ym_X6_logs ml_X6_272 emb_id_qS rfl rfl rfl rfl rfl dX6_notes_57 (Nat.le_of_ble_eq_true rfl) (Nat.le_of_ble_eq_true rfl) (Nat.le_of_ble_eq_true rfl) (Nat.le_of_ble_eq_true rfl) (fun _ _ hu => hu.elim) (fun r u hu => ?_)
      obtain ⟨f2, hu, hR2⟩ := hu
      subst u
      refine v_vret C F dX6_notes_60 (Nat.le_of_ble_eq_true rfl) (Nat.le_of_ble_eq_true rfl) ?_
      exact ⟨f2, sG_sG, hR2⟩
  · refine v_iconst (v := nI 1) C dX6_notes_30 (by decide) ?_
    refine v_goto C 44 dX6_notes_31 (by decide) ?_
    skip
    first | refine v_iaddN C dX6_notes_44 ?_ | refine v_iadd C dX6_notes_44 ?_
    refine v_iast C ar_qS_1 (by decide) _ ?_ rfl dX6_notes_45 ?_
    · omega
    refine V.stt (g2 := sG g 1 (upd (upd (g 1) (391 + k) (m 6 (k + 1) + nI 1)) 397 (m 6 7 + (if k = 1 then nI 1 else if k = 2 then nI 3 else nI 2)))) (by first | (rw [if_pos (show k = 1 by omega)]; exact sG_sG) | (rw [if_neg (show ¬ k = 1 by omega), if_pos (show k = 2 by omega)]; exact sG_sG) | (rw [if_neg (show ¬ k = 1 by omega), if_neg (show ¬ k = 2 by omega)]; exact sG_sG)) ?_
    refine v_aload_n C dX6_notes_46 rfl ?_
    refine v_iload_n C dX6_notes_47 rfl ?_
    refine v_iload_n C dX6_notes_48 rfl ?_
    refine v_aload_n C dX6_notes_49 rfl ?_
    refine v_getr C fl_X6_7 or_qS_0_3 dX6_notes_50 ?_
    refine v_iconst (v := nI 0) C dX6_notes_53 (by decide) ?_
    refine v_iload_n C dX6_notes_54 rfl ?_
    first | refine v_iaddN C dX6_notes_55 ?_ | refine v_iadd C dX6_notes_55 ?_
    refine v_ialdQ (x := m 1 p) C ar_qS_1 (by decide) _ ((by rw [sG_at, upd_o (by omega), upd_o (by omega)]; exact hR.b0 hp)) ?_ rfl dX6_notes_56 ?_
    · omega
    refine v_callVv C (c_X6_logs hl (g := sG g 1 (upd (upd (g 1) (391 + k) (m 6 (k + 1) + nI 1)) 397 (m 6 7 + (if k = 1 then nI 1 else if k = 2 then nI 3 else nI 2)))) (m := cpM m k) (Row_cp hR hk) (EvOK.of hE (by rw [cpM_c (by decide)]))) ym_X6_logs ml_X6_272 emb_id_qS rfl rfl rfl rfl rfl dX6_notes_57 (Nat.le_of_ble_eq_true rfl) (Nat.le_of_ble_eq_true rfl) (Nat.le_of_ble_eq_true rfl) (Nat.le_of_ble_eq_true rfl) (fun _ _ hu => hu.elim) (fun r u hu => ?_)
    obtain ⟨f2, hu, hR2⟩ := hu
    subst u
    refine v_vret C F dX6_notes_60 (Nat.le_of_ble_eq_true rfl) (Nat.le_of_ble_eq_true rfl) ?_
    exact ⟨f2, sG_sG, hR2⟩
set_option maxHeartbeats 16000000 in
theorem c_X6_owesNothing {l : Launch} (hl : l.stackTraces = false) {κ : Kp} {h : Nat → Nat} {g : G} {m : Mg} {p : Nat} (hR : RowR m (g 1)) (hp : p < 96) : Ct SS MM l κ yX6_owesNothing cX6_owesNothing 2 none 0 0 0 [.ref (h 0), .int (nI p)] (qS κ h) g rv (fun _ u => ∃ f, u = sG g 1 f ∧ RowR (endM m p) f) (fun _ _ => False) := by
  refine Ct.of (own := RX6) (by decide) rfl hl (by intro v hv; simp only [List.mem_cons, List.not_mem_nil, or_false] at hv; first | (rcases hv with rfl | rfl | rfl | rfl | rfl | rfl <;> rfl) | (rcases hv with rfl | rfl | rfl | rfl | rfl <;> rfl) | (rcases hv with rfl | rfl | rfl | rfl <;> rfl) | (rcases hv with rfl | rfl | rfl <;> rfl) | (rcases hv with rfl | rfl <;> rfl) | (subst hv; rfl) | exact hv.elim) (Nat.le_of_ble_eq_true rfl) (fun X hxl hxk C F N => ?_)
  subst hxl hxk
  show V X (qS (xK X) h) 0 [some (.ref (h 0)), some (.int (nI p))] [] g 0 0
  refine v_aload_n C dX6_owesNothing_0 rfl ?_
  refine v_getr C fl_X6_7 or_qS_0_3 dX6_owesNothing_1 ?_
  refine v_bipush (v := nI 96) C dX6_owesNothing_4 (by decide) ?_
  refine v_iload_n C dX6_owesNothing_6 rfl ?_
  first | refine v_iaddN C dX6_owesNothing_7 ?_ | refine v_iadd C dX6_owesNothing_7 ?_
  refine v_iconst (v := (-1)) C dX6_owesNothing_8 (by decide) ?_
  refine v_iast C ar_qS_1 (by decide) _ ?_ rfl dX6_owesNothing_9 ?_
  · omega
  refine v_aload_n C dX6_owesNothing_10 rfl ?_
  refine v_getr C fl_X6_7 or_qS_0_3 dX6_owesNothing_11 ?_
  refine v_sipush (v := nI 192) C dX6_owesNothing_14 (by decide) ?_
  refine v_iload_n C dX6_owesNothing_17 rfl ?_
  first | refine v_iaddN C dX6_owesNothing_18 ?_ | refine v_iadd C dX6_owesNothing_18 ?_
  refine v_iconst (v := (-1)) C dX6_owesNothing_19 (by decide) ?_
  refine v_iast C ar_qS_1 (by decide) _ ?_ rfl dX6_owesNothing_20 ?_
  · omega
  refine v_vret C F dX6_owesNothing_21 (Nat.le_of_ble_eq_true rfl) (Nat.le_of_ble_eq_true rfl) ?_
  exact ⟨_, sG_sG, Row_prm (Row_src hR hp) hp⟩
set_option maxHeartbeats 16000000 in
theorem c_X6_pays {l : Launch} (hl : l.stackTraces = false) {κ : Kp} {h : Nat → Nat} {g : G} {m : Mg} {n k p : Nat} (hR : RowR m (g 1)) (hE : EvOK m) (hI : IM m n) (hk : k = 1 ∨ k = 2 ∨ k = 3) (hp : p < n) : Ct SS MM l κ yX6_pays cX6_pays 3 none 3 0 0 [.ref (h 0), .int (nI p), .int (nI k)] (qS κ h) g rv (fun _ u => ∃ f, u = sG g 1 f ∧ RowR (payM k m p) f) (fun _ _ => False) := by
  refine Ct.of (own := RX6) (by decide) rfl hl (by intro v hv; simp only [List.mem_cons, List.not_mem_nil, or_false] at hv; first | (rcases hv with rfl | rfl | rfl | rfl | rfl | rfl <;> rfl) | (rcases hv with rfl | rfl | rfl | rfl | rfl <;> rfl) | (rcases hv with rfl | rfl | rfl | rfl <;> rfl) | (rcases hv with rfl | rfl | rfl <;> rfl) | (rcases hv with rfl | rfl <;> rfl) | (subst hv; rfl) | exact hv.elim) (Nat.le_of_ble_eq_true rfl) (fun X hxl hxk C F N => ?_)
  subst hxl hxk
  show V X (qS (xK X) h) 0 [some (.ref (h 0)), some (.int (nI p)), some (.int (nI k))] [] g 0 0
  have h96 := hI.2.1
  refine v_aload_n C dX6_pays_0 rfl ?_
  refine v_getr C fl_X6_7 or_qS_0_3 dX6_pays_1 ?_
  refine v_iconst (v := nI 0) C dX6_pays_4 (by decide) ?_
  refine v_iload_n C dX6_pays_5 rfl ?_
  first | refine v_iaddN C dX6_pays_6 ?_ | refine v_iadd C dX6_pays_6 ?_
  refine v_aload_n C dX6_pays_7 rfl ?_
  refine v_iload_n C dX6_pays_8 rfl ?_
  refine v_callVi C (c_X6_valueOf hl hR hI hp) ym_X6_valueOf ml_X6_226 emb_id_qS rfl rfl rfl rfl rfl dX6_pays_9 (Nat.le_of_ble_eq_true rfl) (Nat.le_of_ble_eq_true rfl) (Nat.le_of_ble_eq_true rfl) (Nat.le_of_ble_eq_true rfl) (fun _ _ hu => hu.elim) (fun r u hu => ?_)
  obtain ⟨rfl, hu⟩ := hu
  subst u
  refine v_iast C ar_qS_1 (by decide) _ ?_ rfl dX6_pays_12 ?_
  · omega
  refine V.stt (g2 := (sG g 1 (upd (g 1) p (valM m p)))) (by rw [Nat.zero_add]) ?_
  refine v_aload_n C dX6_pays_13 rfl ?_
  refine v_iload_n C dX6_pays_14 rfl ?_
  refine v_callVv C (c_X6_owesNothing hl (g := sG g 1 (upd (g 1) p (valM m p))) (m := (byteM m p (valM m p))) (Row_byte hR (by omega)) (by omega)) ym_X6_owesNothing ml_X6_275 emb_id_qS rfl rfl rfl rfl rfl dX6_pays_15 (Nat.le_of_ble_eq_true rfl) (Nat.le_of_ble_eq_true rfl) (Nat.le_of_ble_eq_true rfl) (Nat.le_of_ble_eq_true rfl) (fun _ _ hu => hu.elim) (fun r u hu => ?_)
  obtain ⟨f1, hu, hR1⟩ := hu
  subst u
  refine V.stt (g2 := (sG g 1 f1)) (sG_sG) ?_
  refine v_aload_n C dX6_pays_18 rfl ?_
  refine v_iload_n C dX6_pays_19 rfl ?_
  refine v_iload_n C dX6_pays_20 rfl ?_
  refine v_callVv C (c_X6_notes hl (g := sG g 1 f1) (m := endM (byteM m p (valM m p)) p) hR1 (EvOK.of hE rfl) hk (by omega)) ym_X6_notes ml_X6_278 emb_id_qS rfl rfl rfl rfl rfl dX6_pays_21 (Nat.le_of_ble_eq_true rfl) (Nat.le_of_ble_eq_true rfl) (Nat.le_of_ble_eq_true rfl) (Nat.le_of_ble_eq_true rfl) (fun _ _ hu => hu.elim) (fun r u hu => ?_)
  obtain ⟨f2, hu, hR2⟩ := hu
  subst u
  refine v_vret C F dX6_pays_24 (Nat.le_of_ble_eq_true rfl) (Nat.le_of_ble_eq_true rfl) ?_
  refine ⟨f2, sG_sG, ?_⟩
  have e1 : endM (byteM m p (valM m p)) p 1 p = valM m p := upd_s
  rw [e1, note_cp] at hR2
  exact hR2
set_option maxHeartbeats 16000000 in
theorem c_X6_drops {l : Launch} (hl : l.stackTraces = false) {κ : Kp} {h : Nat → Nat} {g : G} {m : Mg} {p : Nat} (hR : RowR m (g 1)) (hE : EvOK m) (hp : p < 96) : Ct SS MM l κ yX6_drops cX6_drops 2 none 1 0 0 [.ref (h 0), .int (nI p)] (qS κ h) g rv (fun _ u => ∃ f, u = sG g 1 f ∧ RowR (dropO m p) f) (fun _ _ => False) := by
  refine Ct.of (own := RX6) (by decide) rfl hl (by intro v hv; simp only [List.mem_cons, List.not_mem_nil, or_false] at hv; first | (rcases hv with rfl | rfl | rfl | rfl | rfl | rfl <;> rfl) | (rcases hv with rfl | rfl | rfl | rfl | rfl <;> rfl) | (rcases hv with rfl | rfl | rfl | rfl <;> rfl) | (rcases hv with rfl | rfl | rfl <;> rfl) | (rcases hv with rfl | rfl <;> rfl) | (subst hv; rfl) | exact hv.elim) (Nat.le_of_ble_eq_true rfl) (fun X hxl hxk C F N => ?_)
  subst hxl hxk
  show V X (qS (xK X) h) 0 [some (.ref (h 0)), some (.int (nI p))] [] g 0 0
  refine v_aload_n C dX6_drops_0 rfl ?_
  refine v_iload_n C dX6_drops_1 rfl ?_
  refine v_callVi C (c_X6_owes hl hR hp) ym_X6_owes ml_X6_217 emb_id_qS rfl rfl rfl rfl rfl dX6_drops_2 (Nat.le_of_ble_eq_true rfl) (Nat.le_of_ble_eq_true rfl) (Nat.le_of_ble_eq_true rfl) (Nat.le_of_ble_eq_true rfl) (fun _ _ hu => hu.elim) (fun r u hu => ?_)
  obtain ⟨rfl, hu⟩ := hu
  subst u
  refine v_if_neB C 9 dX6_drops_5 (by decide) (fun c5 => ?_) (fun c5 => ?_)
  · refine v_aload_n C dX6_drops_9 rfl ?_
    refine v_getr C fl_X6_7 or_qS_0_3 dX6_drops_10 ?_
    refine v_sipush (v := nI 395) C dX6_drops_13 (by decide) ?_
    refine v_dup2 C dX6_drops_16 rfl rfl ?_
    refine v_ialdQ (x := m 6 5) C ar_qS_1 (by decide) _ (hR.a (k := 5) (by decide)) ?_ rfl dX6_drops_17 ?_
    · omega
    refine v_iconst (v := nI 1) C dX6_drops_18 (by decide) ?_
    first | refine v_iaddN C dX6_drops_19 ?_ | refine v_iadd C dX6_drops_19 ?_
    refine v_iast C ar_qS_1 (by decide) _ ?_ rfl dX6_drops_20 ?_
    · omega
    refine V.stt (g2 := (sG g 1 (upd (g 1) 395 (m 6 5 + nI 1)))) (rfl) ?_
    refine v_aload_n C dX6_drops_21 rfl ?_
    refine v_iconst (v := nI 4) C dX6_drops_22 (by decide) ?_
    refine v_iload_n C dX6_drops_23 rfl ?_
    refine v_aload_n C dX6_drops_24 rfl ?_
    refine v_getr C fl_X6_7 or_qS_0_3 dX6_drops_25 ?_
    refine v_sipush (v := nI 192) C dX6_drops_28 (by decide) ?_
    refine v_iload_n C dX6_drops_31 rfl ?_
    first | refine v_iaddN C dX6_drops_32 ?_ | refine v_iadd C dX6_drops_32 ?_
    refine v_ialdQ (x := m 3 p) C ar_qS_1 (by decide) _ ((by rw [sG_at, upd_o (by omega)]; exact hR.r hp)) ?_ rfl dX6_drops_33 ?_
    · omega
    refine v_callVv C (c_X6_logs hl (g := sG g 1 (upd (g 1) 395 (m 6 5 + nI 1))) (m := accM m 5 (nI 1)) (Row_acc (k := 5) hR (by decide) (by decide)) (EvOK.of hE rfl)) ym_X6_logs ml_X6_272 emb_id_qS rfl rfl rfl rfl rfl dX6_drops_34 (Nat.le_of_ble_eq_true rfl) (Nat.le_of_ble_eq_true rfl) (Nat.le_of_ble_eq_true rfl) (Nat.le_of_ble_eq_true rfl) (fun _ _ hu => hu.elim) (fun r u hu => ?_)
    obtain ⟨f1, hu, hR1⟩ := hu
    subst u
    refine V.stt (g2 := (sG g 1 f1)) (sG_sG) ?_
    refine v_aload_n C dX6_drops_37 rfl ?_
    refine v_iload_n C dX6_drops_38 rfl ?_
    refine v_callVv C (c_X6_owesNothing hl (g := sG g 1 f1) hR1 hp) ym_X6_owesNothing ml_X6_275 emb_id_qS rfl rfl rfl rfl rfl dX6_drops_39 (Nat.le_of_ble_eq_true rfl) (Nat.le_of_ble_eq_true rfl) (Nat.le_of_ble_eq_true rfl) (Nat.le_of_ble_eq_true rfl) (fun _ _ hu => hu.elim) (fun r u hu => ?_)
    obtain ⟨f2, hu, hR2⟩ := hu
    subst u
    refine v_vret C F dX6_drops_42 (Nat.le_of_ble_eq_true rfl) (Nat.le_of_ble_eq_true rfl) ?_
    exact ⟨f2, sG_sG, by unfold dropO; rw [c5]; exact hR2⟩
  · refine v_vret C F dX6_drops_8 (Nat.le_of_ble_eq_true rfl) (Nat.le_of_ble_eq_true rfl) ?_
    exact ⟨g 1, (sG_id rfl).symm, by unfold dropO; rw [c5]; exact hR⟩
