/-- draw number i of the script: what the cell says, 0 behind the last one -/
def dv (κ : Kp) (i : Nat) : Nat := if i < κ.2.2.2 999 then (nI (κ.2.2.2 (1000 + i)) &&& 2147483647).toInt.toNat else 0
theorem and31 (x : Int32) : x &&& 2147483647 = nI (x &&& 2147483647).toInt.toNat ∧ (x &&& 2147483647).toInt.toNat < 2 ^ 31 := by
  refine nI_of_nonneg ?_
  have h : (x &&& 2147483647).toBitVec.msb = false := by
    show (x.toBitVec &&& (2147483647 : Int32).toBitVec).msb = false
    rw [BitVec.msb_and]
    have : (2147483647 : Int32).toBitVec.msb = false := by decide
    rw [this, Bool.and_false]
  have h2 : (x &&& 2147483647).toInt = (x &&& 2147483647).toBitVec.toInt := rfl
  rw [h2, BitVec.toInt_eq_msb_cond, h]
  simp
def dS (κ : Kp) (b i : Nat) : va_W := [(b, .inr (6, [.ref (κ.2.2.1 102), .int (nI i)]))]
/-- a number that is drawn -/
def drw (κ : Kp) (i a b : Nat) : Nat := a + dv κ i % (b - a + 1)
theorem drw_in {κ : Kp} {i a b : Nat} (h : a ≤ b) : a ≤ drw κ i a b ∧ drw κ i a b ≤ b := by
  unfold drw
  have := Nat.mod_lt (dv κ i) (show 0 < b - a + 1 by omega)
  omega
theorem yc_J4_init_a7421 : Yc yJ4_init_a7421 cJ4_init_a7421 2 1 := ⟨⟨TT_t 271 (by decide +kernel) (by decide +kernel), TT_t 4 (by decide +kernel) (by decide +kernel), TT_t 272 (by decide +kernel) (by decide +kernel)⟩, rfl, ⟨by decide +kernel, by decide +kernel, by decide +kernel⟩, by decide⟩
theorem yc_J4_init_da8c8 : Yc yJ4_init_da8c8 cJ4_init_da8c8 1 0 := ⟨⟨TT_t 1321 (by decide +kernel) (by decide +kernel), TT_t 4 (by decide +kernel) (by decide +kernel), TT_t 1322 (by decide +kernel) (by decide +kernel)⟩, rfl, ⟨by decide +kernel, by decide +kernel, by decide +kernel⟩, by decide⟩
set_option maxRecDepth 1000000 in
theorem tc_X7_init : tables_1[265]? = some (Cond.code yX7_init cX7_init 7 none) := rfl
theorem yc_X7_init : Yc yX7_init cX7_init 7 1 := ⟨⟨TT_t 264 (by decide +kernel) (by decide +kernel), TT_t 2 (by decide +kernel) (by decide +kernel), TT_t 265 tc_X7_init (by decide +kernel)⟩, rfl, ⟨by decide +kernel, by decide +kernel, by decide +kernel⟩, by decide⟩
theorem yc_X8_init : Yc yX8_init cX8_init 2 1 := ⟨⟨TT_t 433 (by decide +kernel) (by decide +kernel), TT_t 13 (by decide +kernel) (by decide +kernel), TT_t 434 (by decide +kernel) (by decide +kernel)⟩, rfl, ⟨by decide +kernel, by decide +kernel, by decide +kernel⟩, by decide⟩
theorem yc_X6_init : Yc yX6_init cX6_init 2 1 := ⟨⟨TT_t 246 (by decide +kernel) (by decide +kernel), TT_t 1 (by decide +kernel) (by decide +kernel), TT_t 247 (by decide +kernel) (by decide +kernel)⟩, rfl, ⟨by decide +kernel, by decide +kernel, by decide +kernel⟩, by decide⟩
theorem fwf_X7_4 : FWf RX7 7 4 (.array (.array .int)) := ⟨(RX7, TX7, 7), tyX7, rfl, tyX7_ok, nmX7, rfl, rfl, by decide +kernel⟩
theorem fwf_X7_3 : FWf RX7 7 3 (.array .int) := ⟨(RX7, TX7, 7), tyX7, rfl, tyX7_ok, nmX7, rfl, rfl, by decide +kernel⟩
theorem fwf_X7_2 : FWf RX7 7 2 (.array .int) := ⟨(RX7, TX7, 7), tyX7, rfl, tyX7_ok, nmX7, rfl, rfl, by decide +kernel⟩
theorem fwf_X7_1 : FWf RX7 7 1 (.array (.object "CopyDebtsLaw$Place")) := ⟨(RX7, TX7, 7), tyX7, rfl, tyX7_ok, nmX7, rfl, rfl, by decide +kernel⟩
theorem fwf_X7_0 : FWf RX7 7 0 (.object "java/lang/StringBuilder") := ⟨(RX7, TX7, 7), tyX7, rfl, tyX7_ok, nmX7, rfl, rfl, by decide +kernel⟩
theorem fwf_X8_0 : FWf RX8 8 0 .int := ⟨(RX8, TX8, 5), tyX8, rfl, tyX8_ok, nmX8, rfl, rfl, by decide +kernel⟩
theorem fwf_X6_0 : FWf RX6 6 0 (.array .int) := ⟨(RX6, TX6, 2), tyX6, rfl, tyX6_ok, nmX6, rfl, rfl, by decide +kernel⟩
set_option maxHeartbeats 16000000 in
theorem c_X8_init {l : Launch} (hl : l.stackTraces = false) {κ : Kp} {b : Nat} {x : Int32}  : CtG SS MM l κ yX8_init cX8_init 2 none 0 0 0 [.ref b, .int x] ([(b, .inr (8, [.int 0, .int 0, .int 0, .null, .int 0]))]) rv (fun _ w => w = [(b, .inr (8, [.int x, .int 0, .int (-1), va_rf none, .int 0]))]) (fun _ _ => False) := by
  refine CtG.of (own := RX8) (by decide) rfl hl (by intro v hv; simp only [List.mem_cons, List.not_mem_nil, or_false] at hv; first | (rcases hv with rfl | rfl | rfl | rfl | rfl | rfl <;> rfl) | (rcases hv with rfl | rfl | rfl | rfl | rfl <;> rfl) | (rcases hv with rfl | rfl | rfl | rfl <;> rfl) | (rcases hv with rfl | rfl | rfl <;> rfl) | (rcases hv with rfl | rfl <;> rfl) | (subst hv; rfl) | exact hv.elim) (Nat.le_of_ble_eq_true rfl) (fun X hxl hxk C F NH hnm => ?_)
  subst hxl hxk
  show V X iW 0 [some (.ref b), some (.int x)] [] ([(b, .inr (8, [.int 0, .int 0, .int 0, .null, .int 0]))]) 0 0
  refine v_aload_n C dX8_init_0 rfl ?_
  refine v_objInit C ml_X8_1 rfl dX8_init_1 (by decide) ?_
  refine v_aload_n C dX8_init_4 rfl ?_
  refine v_iconst (v := (-1)) C dX8_init_5 (by decide) ?_
  refine v_pF (K := fun w => w) (ws := [(b, .inr (8, [.int 0, .int 0, .int 0, .null, .int 0]))]) C Cxt.id 0 fl_X8_7 fw_X8_2 rfl rfl rfl (Nat.le_of_ble_eq_true rfl) rfl dX8_init_6 ?_
  refine V.stt (g2 := [(b, .inr (8, [.int 0, .int 0, .int (-1), .null, .int 0]))]) (rfl) ?_
  refine v_aload_n C dX8_init_9 rfl ?_
  refine v_iload_n C dX8_init_10 rfl ?_
  refine v_pFF (K := fun w => w) (ws := [(b, .inr (8, [.int 0, .int 0, .int (-1), .null, .int 0]))]) C hnm Cxt.id 0 fl_X8_13 fwf_X8_0 rfl rfl rfl (Nat.le_of_ble_eq_true rfl) rfl dX8_init_11 ?_
  refine V.stt (g2 := [(b, .inr (8, [.int x, .int 0, .int (-1), va_rf none, .int 0]))]) (rfl) ?_
  refine v_vretG C (r := ()) F dX8_init_14 (by first | exact Nat.le_of_ble_eq_true rfl | omega) (by first | exact Nat.le_of_ble_eq_true rfl | omega) rfl (List.Perm.refl _) ?_
  rfl
set_option maxHeartbeats 16000000 in
theorem c_X6_next {l : Launch} (hl : l.stackTraces = false) {κ : Kp} {b i lo hi : Nat} (h1 : lo ≤ hi) (h2 : hi < 1000) (hi0 : i < 2 ^ 20) (h31 : κ.2.2.2 999 < 2 ^ 20) : CtG SS MM l κ yX6_next cX6_next 4 (some FieldType.int) 0 0 0 [.ref b, .int (nI lo), .int (nI hi)] (dS κ b i) ri (fun r w => r = nI (drw κ i lo hi) ∧ w = dS κ b (i + 1)) (fun _ _ => False) := by
  refine CtG.of (own := RX6) (by decide) rfl hl (by intro v hv; simp only [List.mem_cons, List.not_mem_nil, or_false] at hv; first | (rcases hv with rfl | rfl | rfl | rfl | rfl | rfl <;> rfl) | (rcases hv with rfl | rfl | rfl | rfl | rfl <;> rfl) | (rcases hv with rfl | rfl | rfl | rfl <;> rfl) | (rcases hv with rfl | rfl | rfl <;> rfl) | (rcases hv with rfl | rfl <;> rfl) | (subst hv; rfl) | exact hv.elim) (Nat.le_of_ble_eq_true rfl) (fun X hxl hxk C F NH hnm => ?_)
  subst hxl hxk
  show V X iW 0 [some (.ref b), some (.int (nI lo)), some (.int (nI hi)), none] [] (dS (xK X) b i) 0 0
  refine v_aload_n C dX6_next_0 rfl ?_
  refine v_gF (K := fun w => w) (ws := dS (xK X) b i) C Cxt.id (v := .int (nI i)) 0 fl_X6_13 rfl rfl dX6_next_1 ?_
  refine v_aload_n C dX6_next_4 rfl ?_
  refine v_gF (K := fun w => w) (ws := dS (xK X) b i) C Cxt.id (v := .ref ((xK X).2.2.1 102)) 0 fl_X6_7 rfl rfl dX6_next_5 ?_
  refine v_sL C dX6_next_8 ?_
  first | refine v_icmp_geN C 27 dX6_next_9 (by decide) (by omega) (by omega) (fun c9 => ?_) (fun c9 => ?_) | refine v_icmp_ge C 27 dX6_next_9 (by decide) (fun c9 => ?_) (fun c9 => ?_)
  · have hd : dv (xK X) i = 0 := if_neg (by omega)
    refine v_iconst (v := nI 0) C dX6_next_27 (by decide) ?_
    have hd31 : dv (xK X) i < 2 ^ 31 := by rw [hd]; decide
    refine V_stk (st2 := [.int (nI (dv (xK X) i))]) (by rw [hd]) ?_
    refine v_istore_n C (lo2 := [some _, some _, some _, some _]) dX6_next_28 rfl (Nat.le_of_ble_eq_true rfl) rfl ?_
    refine v_aload_n C dX6_next_29 rfl ?_
    refine v_dup C dX6_next_30 rfl ?_
    refine v_gF (K := fun w => w) (ws := dS (xK X) b i) C Cxt.id (v := .int (nI i)) 0 fl_X6_13 rfl rfl dX6_next_31 ?_
    refine v_iconst (v := nI 1) C dX6_next_34 (by decide) ?_
    first | refine v_iaddN C dX6_next_35 ?_ | refine v_iadd C dX6_next_35 ?_
    refine v_pF (K := fun w => w) (ws := dS (xK X) b i) C Cxt.id 0 fl_X6_13 fw_X6_1 rfl rfl rfl (Nat.le_of_ble_eq_true rfl) rfl dX6_next_36 ?_
    refine V.stt (g2 := dS (xK X) b (i + 1)) (rfl) ?_
    refine v_iload_n C dX6_next_39 rfl ?_
    refine v_iload_n C dX6_next_40 rfl ?_
    refine v_iload_n C dX6_next_41 rfl ?_
    refine v_iload_n C dX6_next_42 rfl ?_
    first | refine v_isubN C dX6_next_43 (by omega) ?_ | refine v_isub C dX6_next_43 ?_
    refine v_iconst (v := nI 1) C dX6_next_44 (by decide) ?_
    first | refine v_iaddN C dX6_next_45 ?_ | refine v_iadd C dX6_next_45 ?_
    refine v_iremN C dX6_next_46 (by omega) (by omega) (by omega) ?_
    first | refine v_iaddN C dX6_next_47 ?_ | refine v_iadd C dX6_next_47 ?_
    refine v_iretG C F (by first | rfl | exact bI_nar _) dX6_next_48 (by first | exact Nat.le_of_ble_eq_true rfl | omega) (by first | exact Nat.le_of_ble_eq_true rfl | omega) rfl (List.Perm.refl _) ?_
    exact ⟨by unfold drw; rfl, rfl⟩
  · have hd := and31 (nI ((xK X).2.2.2 (1000 + i)))
    have hd2 : dv (xK X) i = (nI ((xK X).2.2.2 (1000 + i)) &&& 2147483647).toInt.toNat := if_pos c9
    refine v_aload_n C dX6_next_12 rfl ?_
    refine v_gF (K := fun w => w) (ws := dS (xK X) b i) C Cxt.id (v := .ref ((xK X).2.2.1 102)) 0 fl_X6_7 rfl rfl dX6_next_13 ?_
    refine v_aload_n C dX6_next_16 rfl ?_
    refine v_gF (K := fun w => w) (ws := dS (xK X) b i) C Cxt.id (v := .int (nI i)) 0 fl_X6_13 rfl rfl dX6_next_17 ?_
    refine v_sX C c9 (by omega) dX6_next_20 ?_
    refine v_ldcI (v := 2147483647) C (TT_t 260 (by decide +kernel) (by decide +kernel)) dX6_next_21 ?_
    refine v_iand C dX6_next_23 ?_
    have hd31 : dv (xK X) i < 2 ^ 31 := by rw [hd2]; exact hd.2
    refine V_stk (st2 := [.int (nI (dv (xK X) i))]) (by rw [hd2]; exact congrArg (fun z => [Value.int z]) hd.1) ?_
    refine v_goto C 28 dX6_next_24 (by decide) ?_
    refine v_istore_n C (lo2 := [some _, some _, some _, some _]) dX6_next_28 rfl (Nat.le_of_ble_eq_true rfl) rfl ?_
    refine v_aload_n C dX6_next_29 rfl ?_
    refine v_dup C dX6_next_30 rfl ?_
    refine v_gF (K := fun w => w) (ws := dS (xK X) b i) C Cxt.id (v := .int (nI i)) 0 fl_X6_13 rfl rfl dX6_next_31 ?_
    refine v_iconst (v := nI 1) C dX6_next_34 (by decide) ?_
    first | refine v_iaddN C dX6_next_35 ?_ | refine v_iadd C dX6_next_35 ?_
    refine v_pF (K := fun w => w) (ws := dS (xK X) b i) C Cxt.id 0 fl_X6_13 fw_X6_1 rfl rfl rfl (Nat.le_of_ble_eq_true rfl) rfl dX6_next_36 ?_
    refine V.stt (g2 := dS (xK X) b (i + 1)) (rfl) ?_
    refine v_iload_n C dX6_next_39 rfl ?_
    refine v_iload_n C dX6_next_40 rfl ?_
    refine v_iload_n C dX6_next_41 rfl ?_
    refine v_iload_n C dX6_next_42 rfl ?_
    first | refine v_isubN C dX6_next_43 (by omega) ?_ | refine v_isub C dX6_next_43 ?_
    refine v_iconst (v := nI 1) C dX6_next_44 (by decide) ?_
    first | refine v_iaddN C dX6_next_45 ?_ | refine v_iadd C dX6_next_45 ?_
    refine v_iremN C dX6_next_46 (by omega) (by omega) (by omega) ?_
    first | refine v_iaddN C dX6_next_47 ?_ | refine v_iadd C dX6_next_47 ?_
    refine v_iretG C F (by first | rfl | exact bI_nar _) dX6_next_48 (by first | exact Nat.le_of_ble_eq_true rfl | omega) (by first | exact Nat.le_of_ble_eq_true rfl | omega) rfl (List.Perm.refl _) ?_
    exact ⟨by unfold drw; rfl, rfl⟩
set_option maxHeartbeats 16000000 in
theorem c_X6_init {l : Launch} (hl : l.stackTraces = false) {κ : Kp} {b a : Nat} (ha : a = κ.2.2.1 102) : CtG SS MM l κ yX6_init cX6_init 2 none 0 0 0 [.ref b, .ref a] ([(b, .inr (6, [.null, .int 0]))]) rv (fun _ w => w = dS κ b 0) (fun _ _ => False) := by
  refine CtG.of (own := RX6) (by decide) rfl hl (by intro v hv; simp only [List.mem_cons, List.not_mem_nil, or_false] at hv; first | (rcases hv with rfl | rfl | rfl | rfl | rfl | rfl <;> rfl) | (rcases hv with rfl | rfl | rfl | rfl | rfl <;> rfl) | (rcases hv with rfl | rfl | rfl | rfl <;> rfl) | (rcases hv with rfl | rfl | rfl <;> rfl) | (rcases hv with rfl | rfl <;> rfl) | (subst hv; rfl) | exact hv.elim) (Nat.le_of_ble_eq_true rfl) (fun X hxl hxk C F NH hnm => ?_)
  subst hxl hxk
  show V X iW 0 [some (.ref b), some (.ref a)] [] ([(b, .inr (6, [.null, .int 0]))]) 0 0
  subst ha
  refine v_aload_n C dX6_init_0 rfl ?_
  refine v_objInit C ml_X6_1 rfl dX6_init_1 (by decide) ?_
  refine v_aload_n C dX6_init_4 rfl ?_
  refine v_aload_n C dX6_init_5 rfl ?_
  refine v_pFF (K := fun w => w) (ws := [(b, .inr (6, [.null, .int 0]))]) C hnm Cxt.id 0 fl_X6_7 fwf_X6_0 rfl rfl rfl (Nat.le_of_ble_eq_true rfl) rfl dX6_init_6 ?_
  refine v_vretG C (r := ()) F dX6_init_9 (by first | exact Nat.le_of_ble_eq_true rfl | omega) (by first | exact Nat.le_of_ble_eq_true rfl | omega) rfl (List.Perm.refl _) ?_
  rfl
