theorem mn_X5_9 : Cond.methodLinkNest RX5 9 yX0_init "CopyDebts" ∈ TN := TN_t 38 (by decide +kernel) rfl
theorem mn_X0_11 : Cond.methodLinkNest RX0 11 yX2_init "CopyDebts" ∈ TN := TN_t 44 (by decide +kernel) rfl
theorem mn_X5_21 : Cond.methodLinkNest RX5 21 yX3_init "CopyDebts" ∈ TN := TN_t 114 (by decide +kernel) rfl
theorem mn_X3_11 : Cond.methodLinkNest RX3 11 yX0_init "CopyDebts" ∈ TN := TN_t 119 (by decide +kernel) rfl
theorem mn_X1_17 : Cond.methodLinkNest RX1 17 yX2_init "CopyDebts" ∈ TN := TN_t 175 (by decide +kernel) rfl
theorem mn_X5_41 : Cond.methodLinkNest RX5 41 yX4_init "CopyDebts" ∈ TN := TN_t 190 (by decide +kernel) rfl
theorem mn_X5_46 : Cond.methodLinkNest RX5 46 yX2_init "CopyDebts" ∈ TN := TN_t 203 (by decide +kernel) rfl
theorem nw_L_18 : NWo RL 18 5 6 [.null, .null, .null, .null, .null, .null] := by
  refine ⟨(RX5, TX5, 6), tyX5, rfl, inTX5, tyX5_ok, TT_t 28 (by decide +kernel) (by decide +kernel), TT_t 29 (by decide +kernel) (by decide +kernel), TT_t 16 (by decide +kernel) (by decide +kernel), ?_, rfl⟩
  intro j hj
  match j, hj with
  | 0, _ => rfl
  | 1, _ => rfl
  | 2, _ => rfl
  | 3, _ => rfl
  | 4, _ => rfl
  | 5, _ => rfl
  | j + 6, hj => exact absurd (show j + 6 < 6 from hj) (by omega)
theorem nw_X5_7 : NWo RX5 7 0 4 [.null, .null, .null, .null] := by
  refine ⟨(RX0, TX0, 4), tyX0, rfl, inTX0, tyX0_ok, TT_t 36 (by decide +kernel) (by decide +kernel), TT_t 37 (by decide +kernel) (by decide +kernel), TT_t 17 (by decide +kernel) (by decide +kernel), ?_, rfl⟩
  intro j hj
  match j, hj with
  | 0, _ => rfl
  | 1, _ => rfl
  | 2, _ => rfl
  | 3, _ => rfl
  | j + 4, hj => exact absurd (show j + 4 < 4 from hj) (by omega)
theorem nw_X0_9 : NWo RX0 9 2 9 [.null, .null, .null, .null, .null, .null, .null, .int 0, .int 0] := by
  refine ⟨(RX2, TX2, 9), tyX2, rfl, inTX2, tyX2_ok, TT_t 42 (by decide +kernel) (by decide +kernel), TT_t 43 (by decide +kernel) (by decide +kernel), TT_t 18 (by decide +kernel) (by decide +kernel), ?_, rfl⟩
  intro j hj
  match j, hj with
  | 0, _ => rfl
  | 1, _ => rfl
  | 2, _ => rfl
  | 3, _ => rfl
  | 4, _ => rfl
  | 5, _ => rfl
  | 6, _ => rfl
  | 7, _ => rfl
  | 8, _ => rfl
  | j + 9, hj => exact absurd (show j + 9 < 9 from hj) (by omega)
theorem nw_X5_19 : NWo RX5 19 3 14 [.null, .null, .int 0, .int 0, .int 0, .int 0, .int 0, .int 0, .int 0, .int 0, .int 0, .int 0, .int 0, .int 0] := by
  refine ⟨(RX3, TX3, 14), tyX3, rfl, inTX3, tyX3_ok, TT_t 112 (by decide +kernel) (by decide +kernel), TT_t 113 (by decide +kernel) (by decide +kernel), TT_t 19 (by decide +kernel) (by decide +kernel), ?_, rfl⟩
  intro j hj
  match j, hj with
  | 0, _ => rfl
  | 1, _ => rfl
  | 2, _ => rfl
  | 3, _ => rfl
  | 4, _ => rfl
  | 5, _ => rfl
  | 6, _ => rfl
  | 7, _ => rfl
  | 8, _ => rfl
  | 9, _ => rfl
  | 10, _ => rfl
  | 11, _ => rfl
  | 12, _ => rfl
  | 13, _ => rfl
  | j + 14, hj => exact absurd (show j + 14 < 14 from hj) (by omega)
theorem nw_X3_9 : NWo RX3 9 0 4 [.null, .null, .null, .null] := by
  refine ⟨(RX0, TX0, 4), tyX0, rfl, inTX0, tyX0_ok, TT_t 118 (by decide +kernel) (by decide +kernel), TT_t 37 (by decide +kernel) (by decide +kernel), TT_t 17 (by decide +kernel) (by decide +kernel), ?_, rfl⟩
  intro j hj
  match j, hj with
  | 0, _ => rfl
  | 1, _ => rfl
  | 2, _ => rfl
  | 3, _ => rfl
  | j + 4, hj => exact absurd (show j + 4 < 4 from hj) (by omega)
theorem nw_X5_26 : NWo RX5 26 1 3 [.null, .int 0, .int 0] := by
  refine ⟨(RX1, TX1, 3), tyX1, rfl, inTX1, tyX1_ok, TT_t 167 (by decide +kernel) (by decide +kernel), TT_t 168 (by decide +kernel) (by decide +kernel), TT_t 20 (by decide +kernel) (by decide +kernel), ?_, rfl⟩
  intro j hj
  match j, hj with
  | 0, _ => rfl
  | 1, _ => rfl
  | 2, _ => rfl
  | j + 3, hj => exact absurd (show j + 3 < 3 from hj) (by omega)
theorem nw_X1_9 : NWo RX1 9 2 9 [.null, .null, .null, .null, .null, .null, .null, .int 0, .int 0] := by
  refine ⟨(RX2, TX2, 9), tyX2, rfl, inTX2, tyX2_ok, TT_t 173 (by decide +kernel) (by decide +kernel), TT_t 43 (by decide +kernel) (by decide +kernel), TT_t 18 (by decide +kernel) (by decide +kernel), ?_, rfl⟩
  intro j hj
  match j, hj with
  | 0, _ => rfl
  | 1, _ => rfl
  | 2, _ => rfl
  | 3, _ => rfl
  | 4, _ => rfl
  | 5, _ => rfl
  | 6, _ => rfl
  | 7, _ => rfl
  | 8, _ => rfl
  | j + 9, hj => exact absurd (show j + 9 < 9 from hj) (by omega)
theorem nw_X5_33 : NWo RX5 33 2 9 [.null, .null, .null, .null, .null, .null, .null, .int 0, .int 0] := by
  refine ⟨(RX2, TX2, 9), tyX2, rfl, inTX2, tyX2_ok, TT_t 187 (by decide +kernel) (by decide +kernel), TT_t 43 (by decide +kernel) (by decide +kernel), TT_t 18 (by decide +kernel) (by decide +kernel), ?_, rfl⟩
  intro j hj
  match j, hj with
  | 0, _ => rfl
  | 1, _ => rfl
  | 2, _ => rfl
  | 3, _ => rfl
  | 4, _ => rfl
  | 5, _ => rfl
  | 6, _ => rfl
  | 7, _ => rfl
  | 8, _ => rfl
  | j + 9, hj => exact absurd (show j + 9 < 9 from hj) (by omega)
theorem nw_X5_39 : NWo RX5 39 4 2 [.null, .int 0] := by
  refine ⟨(RX4, TX4, 2), tyX4, rfl, inTX4, tyX4_ok, TT_t 188 (by decide +kernel) (by decide +kernel), TT_t 189 (by decide +kernel) (by decide +kernel), TT_t 21 (by decide +kernel) (by decide +kernel), ?_, rfl⟩
  intro j hj
  match j, hj with
  | 0, _ => rfl
  | 1, _ => rfl
  | j + 2, hj => exact absurd (show j + 2 < 2 from hj) (by omega)
theorem fwf_X0_0 : FWf RX0 0 0 (.object "CopyDebts$Memory") := ⟨(RX0, TX0, 4), tyX0, rfl, tyX0_ok, nmX0, rfl, rfl, by decide +kernel⟩
theorem fwf_X0_1 : FWf RX0 0 1 (.array .boolean) := ⟨(RX0, TX0, 4), tyX0, rfl, tyX0_ok, nmX0, rfl, rfl, by decide +kernel⟩
theorem fwf_X0_2 : FWf RX0 0 2 (.array .int) := ⟨(RX0, TX0, 4), tyX0, rfl, tyX0_ok, nmX0, rfl, rfl, by decide +kernel⟩
theorem fwf_X0_3 : FWf RX0 0 3 (.array .int) := ⟨(RX0, TX0, 4), tyX0, rfl, tyX0_ok, nmX0, rfl, rfl, by decide +kernel⟩
theorem fwf_X1_0 : FWf RX1 1 0 (.array (.object "CopyDebts$Memory")) := ⟨(RX1, TX1, 3), tyX1, rfl, tyX1_ok, nmX1, rfl, rfl, by decide +kernel⟩
theorem fwf_X2_0 : FWf RX2 2 0 (.array .int) := ⟨(RX2, TX2, 9), tyX2, rfl, tyX2_ok, nmX2, rfl, rfl, by decide +kernel⟩
theorem fwf_X2_1 : FWf RX2 2 1 (.array .int) := ⟨(RX2, TX2, 9), tyX2, rfl, tyX2_ok, nmX2, rfl, rfl, by decide +kernel⟩
theorem fwf_X2_2 : FWf RX2 2 2 (.array .int) := ⟨(RX2, TX2, 9), tyX2, rfl, tyX2_ok, nmX2, rfl, rfl, by decide +kernel⟩
theorem fwf_X2_3 : FWf RX2 2 3 (.array .boolean) := ⟨(RX2, TX2, 9), tyX2, rfl, tyX2_ok, nmX2, rfl, rfl, by decide +kernel⟩
theorem fwf_X2_4 : FWf RX2 2 4 (.array .int) := ⟨(RX2, TX2, 9), tyX2, rfl, tyX2_ok, nmX2, rfl, rfl, by decide +kernel⟩
theorem fwf_X2_5 : FWf RX2 2 5 (.array .int) := ⟨(RX2, TX2, 9), tyX2, rfl, tyX2_ok, nmX2, rfl, rfl, by decide +kernel⟩
theorem fwf_X2_6 : FWf RX2 2 6 (.array .int) := ⟨(RX2, TX2, 9), tyX2, rfl, tyX2_ok, nmX2, rfl, rfl, by decide +kernel⟩
theorem fwf_X3_0 : FWf RX3 3 0 (.object "CopyDebts$Engine") := ⟨(RX3, TX3, 14), tyX3, rfl, tyX3_ok, nmX3, rfl, rfl, by decide +kernel⟩
theorem fwf_X3_1 : FWf RX3 3 1 (.array .int) := ⟨(RX3, TX3, 14), tyX3, rfl, tyX3_ok, nmX3, rfl, rfl, by decide +kernel⟩
theorem fwf_X4_0 : FWf RX4 4 0 (.array .int) := ⟨(RX4, TX4, 2), tyX4, rfl, tyX4_ok, nmX4, rfl, rfl, by decide +kernel⟩
theorem fwf_X5_0 : FWf RX5 5 0 (.object "CopyDebts$Engine") := ⟨(RX5, TX5, 6), tyX5, rfl, tyX5_ok, nmX5, rfl, rfl, by decide +kernel⟩
theorem fwf_X5_1 : FWf RX5 5 1 (.object "CopyDebts$Engine") := ⟨(RX5, TX5, 6), tyX5, rfl, tyX5_ok, nmX5, rfl, rfl, by decide +kernel⟩
theorem fwf_X5_2 : FWf RX5 5 2 (.object "CopyDebts$Reader") := ⟨(RX5, TX5, 6), tyX5, rfl, tyX5_ok, nmX5, rfl, rfl, by decide +kernel⟩
theorem fwf_X5_3 : FWf RX5 5 3 (.object "CopyDebts$History") := ⟨(RX5, TX5, 6), tyX5, rfl, tyX5_ok, nmX5, rfl, rfl, by decide +kernel⟩
theorem fwf_X5_4 : FWf RX5 5 4 (.array (.object "CopyDebts$Memory")) := ⟨(RX5, TX5, 6), tyX5, rfl, tyX5_ok, nmX5, rfl, rfl, by decide +kernel⟩
theorem fwf_X5_5 : FWf RX5 5 5 (.object "CopyDebts$Text") := ⟨(RX5, TX5, 6), tyX5, rfl, tyX5_ok, nmX5, rfl, rfl, by decide +kernel⟩
theorem yi_X0 : Yi yX0_init cX0_init 1 := ⟨⟨TT_t 39 (by decide +kernel) (by decide +kernel), TT_t 17 (by decide +kernel) (by decide +kernel), TT_t 40 (by decide +kernel) (by decide +kernel)⟩, rfl, ⟨by decide +kernel, by decide +kernel, by decide +kernel⟩, by decide⟩
theorem yi_X1 : Yi yX1_init cX1_init 2 := ⟨⟨TT_t 170 (by decide +kernel) (by decide +kernel), TT_t 20 (by decide +kernel) (by decide +kernel), TT_t 171 (by decide +kernel) (by decide +kernel)⟩, rfl, ⟨by decide +kernel, by decide +kernel, by decide +kernel⟩, by decide⟩
theorem yi_X2 : Yi yX2_init cX2_init 1 := ⟨⟨TT_t 45 (by decide +kernel) (by decide +kernel), TT_t 18 (by decide +kernel) (by decide +kernel), TT_t 46 (by decide +kernel) (by decide +kernel)⟩, rfl, ⟨by decide +kernel, by decide +kernel, by decide +kernel⟩, by decide⟩
theorem yi_X3 : Yi yX3_init cX3_init 1 := ⟨⟨TT_t 115 (by decide +kernel) (by decide +kernel), TT_t 19 (by decide +kernel) (by decide +kernel), TT_t 116 (by decide +kernel) (by decide +kernel)⟩, rfl, ⟨by decide +kernel, by decide +kernel, by decide +kernel⟩, by decide⟩
theorem yi_X4 : Yi yX4_init cX4_init 1 := ⟨⟨TT_t 191 (by decide +kernel) (by decide +kernel), TT_t 21 (by decide +kernel) (by decide +kernel), TT_t 192 (by decide +kernel) (by decide +kernel)⟩, rfl, ⟨by decide +kernel, by decide +kernel, by decide +kernel⟩, by decide⟩
theorem yi_X5 : Yi yX5_init cX5_init 2 := ⟨⟨TT_t 31 (by decide +kernel) (by decide +kernel), TT_t 16 (by decide +kernel) (by decide +kernel), TT_t 32 (by decide +kernel) (by decide +kernel)⟩, rfl, ⟨by decide +kernel, by decide +kernel, by decide +kernel⟩, by decide⟩
def cat (n : Nat) (h1 h2 : Nat → Nat) : Nat → Nat := fun i => if i < n then h1 i else h2 (i - n)
def hlst (l : List Nat) : Nat → Nat := fun i => l.getD i 0
theorem sh_cat {n m : Nat} {h1 h2 : Nat → Nat} (e : n ≤ m) : sh m (cat n h1 h2) = sh (m - n) h2 := by
  funext i
  show (if m + i < n then h1 (m + i) else h2 (m + i - n)) = h2 (m - n + i)
  rw [if_neg (by omega), show m + i - n = m - n + i by omega]
theorem sh_zero {α : Type} {h : Nat → α} : sh 0 h = h := by
  funext i
  show h (0 + i) = h i
  rw [Nat.zero_add]
theorem mS_cat {κ : Kp} {h1 h2 : Nat → Nat} {g : Mg} : mS κ (cat 8 h1 h2) g = mS κ h1 g := rfl
theorem eS_cat {κ : Kp} {h1 h2 : Nat → Nat} {g : Eg} : eS κ (cat 12 h1 h2) g = eS κ h1 g := rfl
theorem rS_cat {κ : Kp} {h1 h2 : Nat → Nat} {g : Rg} : rS κ (cat 14 h1 h2) g = rS κ h1 g := rfl
theorem tS_cat {κ : Kp} {h1 h2 : Nat → Nat} {g : G} : tS κ (cat 2 h1 h2) g = tS κ h1 g := rfl
theorem qS_cat {κ : Kp} {h1 h2 : Nat → Nat} {g : G} : qS κ (cat 7 h1 h2) g = qS κ h1 g := rfl
def m0 : Mg := fun _ _ => 0
def e0 : Eg := (m0, m0)
def r0 : Rg := (fun c f => if c = 0 then (if f = 4 then -1 else 0) else 0, e0)
def h0g : Hg := (m0, fun _ => m0)
def c0 : Cg := (e0, e0, r0, h0g, fun _ => m0, m0)
def q0g : G := fun c f => if c = 0 then (if f = 10 then -1 else 0) else 0
section PM
variable {α : Type}
theorem pA {o c : α} {R : List α} : (c :: o :: R).Perm (o :: (R ++ [c])) := (List.Perm.swap _ _ _).trans (List.Perm.cons _ (List.perm_append_singleton _ _).symm)
theorem pB {o : α} {B R : List α} : (B ++ (o :: R)).Perm (o :: (R ++ B)) := List.perm_middle.trans (List.Perm.cons _ List.perm_append_comm)
theorem pC {o a : α} {B R : List α} : (B ++ (o :: a :: R)).Perm (o :: a :: (R ++ B)) := List.perm_middle.trans (List.Perm.cons _ (List.perm_middle.trans (List.Perm.cons _ List.perm_append_comm)))
theorem pE {o x y z : α} {M : List α} : (o :: ((((([] : List α) ++ M) ++ [x]) ++ [y]) ++ [z])).Perm ([o, x, y, z] ++ M) := by
  refine List.Perm.cons _ ?_
  simp only [List.nil_append, List.append_assoc, List.singleton_append]
  exact List.perm_append_comm
theorem pX {o a : α} {E1 E2 R H T M1 M2 : List α} : (o :: a :: (((((((([] : List α) ++ E1) ++ E2) ++ R) ++ H) ++ T) ++ M1) ++ M2)).Perm ([o] ++ E1 ++ E2 ++ R ++ H ++ [a] ++ M1 ++ M2 ++ T) := by
  refine List.Perm.cons _ ?_
  have h1 : (((((((([] : List α) ++ E1) ++ E2) ++ R) ++ H) ++ T) ++ M1) ++ M2) = (E1 ++ (E2 ++ (R ++ H))) ++ (T ++ (M1 ++ M2)) := by simp only [List.nil_append, List.append_assoc]
  have h2 : ([] ++ E1 ++ E2 ++ R ++ H ++ [a] ++ M1 ++ M2 ++ T : List α) = (E1 ++ (E2 ++ (R ++ H))) ++ (a :: ((M1 ++ M2) ++ T)) := by simp only [List.nil_append, List.append_assoc, List.cons_append]
  show (a :: (((((((([] : List α) ++ E1) ++ E2) ++ R) ++ H) ++ T) ++ M1) ++ M2)).Perm ([] ++ E1 ++ E2 ++ R ++ H ++ [a] ++ M1 ++ M2 ++ T)
  rw [h1, h2]
  refine List.Perm.trans ?_ List.perm_middle.symm
  refine List.Perm.cons _ (List.Perm.append_left _ ?_)
  exact List.perm_append_comm
end PM
set_option maxHeartbeats 2000000 in
set_option maxRecDepth 20000 in
theorem c_X2_init {S : List SQ} {Ms : List MQ3} {l : Launch} {κ : Kp} (hl : l.stackTraces = false) (b : Nat) : CtN S Ms l κ yX2_init cX2_init 1 0 7 638 b 2 [.null, .null, .null, .null, .null, .null, .null, .int 0, .int 0] (fun h => mS κ h m0) := by
  refine CtN.of (own := RX2) (by decide +kernel) rfl rfl hl (by decide) (fun X hXl hXK C EN F _ => ?_)
  subst hXK
  skip
  refine v_aload_n C dX2_init_0 rfl ?_
  refine v_objInit C ml_X2_3 rfl dX2_init_1 (by decide) ?_
  refine v_aload_n C dX2_init_4 rfl ?_
  refine v_bipush C dX2_init_5 (v := 96) (by decide) ?_
  refine v_newI C 96 rfl (by decide) dX2_init_7 (Nat.le_of_ble_eq_true rfl) (Nat.le_of_ble_eq_true rfl) (fun a1 => ?_)
  refine v_putF C EN 1 fl_X2_9 fwf_X2_0 rfl rfl rfl (Nat.le_of_ble_eq_true rfl) dX2_init_9 ?_
  refine V.stt (g2 := cI (xK X) a1 96 (fun _ => 0) :: (b, .inr (2, [.ref a1, .null, .null, .null, .null, .null, .null, .int 0, .int 0])) :: ([] : va_W)) rfl ?_
  refine V.perm (ws' := (b, .inr (2, [.ref a1, .null, .null, .null, .null, .null, .null, .int 0, .int 0])) :: (([] : va_W) ++ [cI (xK X) a1 96 (fun _ => 0)])) pA ?_
  refine v_aload_n C dX2_init_12 rfl ?_
  refine v_bipush C dX2_init_13 (v := 96) (by decide) ?_
  refine v_newI C 96 rfl (by decide) dX2_init_15 (Nat.le_of_ble_eq_true rfl) (Nat.le_of_ble_eq_true rfl) (fun a2 => ?_)
  refine v_putF C EN 1 fl_X2_15 fwf_X2_1 rfl rfl rfl (Nat.le_of_ble_eq_true rfl) dX2_init_17 ?_
  refine V.stt (g2 := cI (xK X) a2 96 (fun _ => 0) :: (b, .inr (2, [.ref a1, .ref a2, .null, .null, .null, .null, .null, .int 0, .int 0])) :: (([] : va_W) ++ [cI (xK X) a1 96 (fun _ => 0)])) rfl ?_
  refine V.perm (ws' := (b, .inr (2, [.ref a1, .ref a2, .null, .null, .null, .null, .null, .int 0, .int 0])) :: ((([] : va_W) ++ [cI (xK X) a1 96 (fun _ => 0)]) ++ [cI (xK X) a2 96 (fun _ => 0)])) pA ?_
  refine v_aload_n C dX2_init_20 rfl ?_
  refine v_bipush C dX2_init_21 (v := 96) (by decide) ?_
  refine v_newI C 96 rfl (by decide) dX2_init_23 (Nat.le_of_ble_eq_true rfl) (Nat.le_of_ble_eq_true rfl) (fun a3 => ?_)
  refine v_putF C EN 1 fl_X2_18 fwf_X2_2 rfl rfl rfl (Nat.le_of_ble_eq_true rfl) dX2_init_25 ?_
  refine V.stt (g2 := cI (xK X) a3 96 (fun _ => 0) :: (b, .inr (2, [.ref a1, .ref a2, .ref a3, .null, .null, .null, .null, .int 0, .int 0])) :: ((([] : va_W) ++ [cI (xK X) a1 96 (fun _ => 0)]) ++ [cI (xK X) a2 96 (fun _ => 0)])) rfl ?_
  refine V.perm (ws' := (b, .inr (2, [.ref a1, .ref a2, .ref a3, .null, .null, .null, .null, .int 0, .int 0])) :: (((([] : va_W) ++ [cI (xK X) a1 96 (fun _ => 0)]) ++ [cI (xK X) a2 96 (fun _ => 0)]) ++ [cI (xK X) a3 96 (fun _ => 0)])) pA ?_
  refine v_aload_n C dX2_init_28 rfl ?_
  refine v_bipush C dX2_init_29 (v := 96) (by decide) ?_
  refine v_newZ C 96 rfl (by decide) dX2_init_31 (Nat.le_of_ble_eq_true rfl) (Nat.le_of_ble_eq_true rfl) (fun a4 => ?_)
  refine v_putF C EN 1 fl_X2_21 fwf_X2_3 rfl rfl rfl (Nat.le_of_ble_eq_true rfl) dX2_init_33 ?_
  refine V.stt (g2 := cZ (xK X) a4 96 (fun _ => 0) :: (b, .inr (2, [.ref a1, .ref a2, .ref a3, .ref a4, .null, .null, .null, .int 0, .int 0])) :: (((([] : va_W) ++ [cI (xK X) a1 96 (fun _ => 0)]) ++ [cI (xK X) a2 96 (fun _ => 0)]) ++ [cI (xK X) a3 96 (fun _ => 0)])) rfl ?_
  refine V.perm (ws' := (b, .inr (2, [.ref a1, .ref a2, .ref a3, .ref a4, .null, .null, .null, .int 0, .int 0])) :: ((((([] : va_W) ++ [cI (xK X) a1 96 (fun _ => 0)]) ++ [cI (xK X) a2 96 (fun _ => 0)]) ++ [cI (xK X) a3 96 (fun _ => 0)]) ++ [cZ (xK X) a4 96 (fun _ => 0)])) pA ?_
  refine v_aload_n C dX2_init_36 rfl ?_
  refine v_iconst C dX2_init_37 (v := 5) (by decide) ?_
  refine v_newI C 5 rfl (by decide) dX2_init_38 (Nat.le_of_ble_eq_true rfl) (Nat.le_of_ble_eq_true rfl) (fun a5 => ?_)
  refine v_putF C EN 1 fl_X2_25 fwf_X2_4 rfl rfl rfl (Nat.le_of_ble_eq_true rfl) dX2_init_40 ?_
  refine V.stt (g2 := cI (xK X) a5 5 (fun _ => 0) :: (b, .inr (2, [.ref a1, .ref a2, .ref a3, .ref a4, .ref a5, .null, .null, .int 0, .int 0])) :: ((((([] : va_W) ++ [cI (xK X) a1 96 (fun _ => 0)]) ++ [cI (xK X) a2 96 (fun _ => 0)]) ++ [cI (xK X) a3 96 (fun _ => 0)]) ++ [cZ (xK X) a4 96 (fun _ => 0)])) rfl ?_
  refine V.perm (ws' := (b, .inr (2, [.ref a1, .ref a2, .ref a3, .ref a4, .ref a5, .null, .null, .int 0, .int 0])) :: (((((([] : va_W) ++ [cI (xK X) a1 96 (fun _ => 0)]) ++ [cI (xK X) a2 96 (fun _ => 0)]) ++ [cI (xK X) a3 96 (fun _ => 0)]) ++ [cZ (xK X) a4 96 (fun _ => 0)]) ++ [cI (xK X) a5 5 (fun _ => 0)])) pA ?_
  refine v_aload_n C dX2_init_43 rfl ?_
  refine v_bipush C dX2_init_44 (v := 9) (by decide) ?_
  refine v_newI C 9 rfl (by decide) dX2_init_46 (Nat.le_of_ble_eq_true rfl) (Nat.le_of_ble_eq_true rfl) (fun a6 => ?_)
  refine v_putF C EN 1 fl_X2_28 fwf_X2_5 rfl rfl rfl (Nat.le_of_ble_eq_true rfl) dX2_init_48 ?_
  refine V.stt (g2 := cI (xK X) a6 9 (fun _ => 0) :: (b, .inr (2, [.ref a1, .ref a2, .ref a3, .ref a4, .ref a5, .ref a6, .null, .int 0, .int 0])) :: (((((([] : va_W) ++ [cI (xK X) a1 96 (fun _ => 0)]) ++ [cI (xK X) a2 96 (fun _ => 0)]) ++ [cI (xK X) a3 96 (fun _ => 0)]) ++ [cZ (xK X) a4 96 (fun _ => 0)]) ++ [cI (xK X) a5 5 (fun _ => 0)])) rfl ?_
  refine V.perm (ws' := (b, .inr (2, [.ref a1, .ref a2, .ref a3, .ref a4, .ref a5, .ref a6, .null, .int 0, .int 0])) :: ((((((([] : va_W) ++ [cI (xK X) a1 96 (fun _ => 0)]) ++ [cI (xK X) a2 96 (fun _ => 0)]) ++ [cI (xK X) a3 96 (fun _ => 0)]) ++ [cZ (xK X) a4 96 (fun _ => 0)]) ++ [cI (xK X) a5 5 (fun _ => 0)]) ++ [cI (xK X) a6 9 (fun _ => 0)])) pA ?_
  refine v_aload_n C dX2_init_51 rfl ?_
  refine v_sipush C dX2_init_52 (v := 240) (by decide) ?_
  refine v_newI C 240 rfl (by decide) dX2_init_55 (Nat.le_of_ble_eq_true rfl) (Nat.le_of_ble_eq_true rfl) (fun a7 => ?_)
  refine v_putF C EN 1 fl_X2_31 fwf_X2_6 rfl rfl rfl (Nat.le_of_ble_eq_true rfl) dX2_init_57 ?_
  refine V.stt (g2 := cI (xK X) a7 240 (fun _ => 0) :: (b, .inr (2, [.ref a1, .ref a2, .ref a3, .ref a4, .ref a5, .ref a6, .ref a7, .int 0, .int 0])) :: ((((((([] : va_W) ++ [cI (xK X) a1 96 (fun _ => 0)]) ++ [cI (xK X) a2 96 (fun _ => 0)]) ++ [cI (xK X) a3 96 (fun _ => 0)]) ++ [cZ (xK X) a4 96 (fun _ => 0)]) ++ [cI (xK X) a5 5 (fun _ => 0)]) ++ [cI (xK X) a6 9 (fun _ => 0)])) rfl ?_
  refine V.perm (ws' := (b, .inr (2, [.ref a1, .ref a2, .ref a3, .ref a4, .ref a5, .ref a6, .ref a7, .int 0, .int 0])) :: (((((((([] : va_W) ++ [cI (xK X) a1 96 (fun _ => 0)]) ++ [cI (xK X) a2 96 (fun _ => 0)]) ++ [cI (xK X) a3 96 (fun _ => 0)]) ++ [cZ (xK X) a4 96 (fun _ => 0)]) ++ [cI (xK X) a5 5 (fun _ => 0)]) ++ [cI (xK X) a6 9 (fun _ => 0)]) ++ [cI (xK X) a7 240 (fun _ => 0)])) pA ?_
  exact v_retN C F (hlst [b, a1, a2, a3, a4, a5, a6, a7]) rfl (List.Perm.refl _) dX2_init_60 (Nat.le_of_ble_eq_true rfl) (Nat.le_of_ble_eq_true rfl)
set_option maxHeartbeats 2000000 in
set_option maxRecDepth 20000 in
theorem c_X4_init {S : List SQ} {Ms : List MQ3} {l : Launch} {κ : Kp} (hl : l.stackTraces = false) (b : Nat) : CtN S Ms l κ yX4_init cX4_init 1 0 1 864 b 4 [.null, .int 0] (fun h => tS κ h m0) := by
  refine CtN.of (own := RX4) (by decide +kernel) rfl rfl hl (by decide) (fun X hXl hXK C EN F _ => ?_)
  subst hXK
  skip
  refine v_aload_n C dX4_init_0 rfl ?_
  refine v_objInit C ml_X4_3 rfl dX4_init_1 (by decide) ?_
  refine v_aload_n C dX4_init_4 rfl ?_
  refine v_sipush C dX4_init_5 (v := 864) (by decide) ?_
  refine v_newI C 864 rfl (by decide) dX4_init_8 (Nat.le_of_ble_eq_true rfl) (Nat.le_of_ble_eq_true rfl) (fun a1 => ?_)
  refine v_putF C EN 1 fl_X4_9 fwf_X4_0 rfl rfl rfl (Nat.le_of_ble_eq_true rfl) dX4_init_10 ?_
  refine V.stt (g2 := cI (xK X) a1 864 (fun _ => 0) :: (b, .inr (4, [.ref a1, .int 0])) :: ([] : va_W)) rfl ?_
  refine V.perm (ws' := (b, .inr (4, [.ref a1, .int 0])) :: (([] : va_W) ++ [cI (xK X) a1 864 (fun _ => 0)])) pA ?_
  exact v_retN C F (hlst [b, a1]) rfl (List.Perm.refl _) dX4_init_13 (Nat.le_of_ble_eq_true rfl) (Nat.le_of_ble_eq_true rfl)
set_option maxHeartbeats 2000000 in
set_option maxRecDepth 20000 in
theorem c_X0_init {S : List SQ} {Ms : List MQ3} {l : Launch} {κ : Kp} (hl : l.stackTraces = false) (b : Nat) : CtN S Ms l κ yX0_init cX0_init 1 1 11 935 b 0 [.null, .null, .null, .null] (fun h => eS κ h e0) := by
  refine CtN.of (own := RX0) (by decide +kernel) rfl rfl hl (by decide) (fun X hXl hXK C EN F _ => ?_)
  subst hXK
  skip
  refine v_aload_n C dX0_init_0 rfl ?_
  refine v_objInit C ml_X0_3 rfl dX0_init_1 (by decide) ?_
  refine v_aload_n C dX0_init_4 rfl ?_
  refine v_new C nw_X0_9 dX0_init_5 (Nat.le_of_ble_eq_true rfl) (Nat.le_of_ble_eq_true rfl) (fun b1 => ?_)
  refine v_dup C dX0_init_8 rfl ?_
  refine v_callN C EN (by rw [hXl]; exact c_X2_init hl b1) yi_X2 mn_X0_11 rfl dX0_init_9 (by decide) (Nat.le_of_ble_eq_true rfl) (Nat.le_of_ble_eq_true rfl) (Nat.le_of_ble_eq_true rfl) (fun h2 hb2 => ?_)
  subst hb2
  refine V.perm (ws' := (b, .inr (0, [.null, .null, .null, .null])) :: (([] : va_W) ++ mS (xK X) h2 m0)) pB ?_
  refine v_putF C EN 0 fl_X0_12 fwf_X0_0 rfl rfl rfl (Nat.le_of_ble_eq_true rfl) dX0_init_12 ?_
  refine V.stt (g2 := (b, .inr (0, [.ref (h2 0), .null, .null, .null])) :: (([] : va_W) ++ mS (xK X) h2 m0)) rfl ?_
  refine v_aload_n C dX0_init_15 rfl ?_
  refine v_bipush C dX0_init_16 (v := 96) (by decide) ?_
  refine v_newZ C 96 rfl (by decide) dX0_init_18 (Nat.le_of_ble_eq_true rfl) (Nat.le_of_ble_eq_true rfl) (fun a3 => ?_)
  refine v_putF C EN 1 fl_X0_18 fwf_X0_1 rfl rfl rfl (Nat.le_of_ble_eq_true rfl) dX0_init_20 ?_
  refine V.stt (g2 := cZ (xK X) a3 96 (fun _ => 0) :: (b, .inr (0, [.ref (h2 0), .ref a3, .null, .null])) :: (([] : va_W) ++ mS (xK X) h2 m0)) rfl ?_
  refine V.perm (ws' := (b, .inr (0, [.ref (h2 0), .ref a3, .null, .null])) :: ((([] : va_W) ++ mS (xK X) h2 m0) ++ [cZ (xK X) a3 96 (fun _ => 0)])) pA ?_
  refine v_aload_n C dX0_init_23 rfl ?_
  refine v_bipush C dX0_init_24 (v := 96) (by decide) ?_
  refine v_newI C 96 rfl (by decide) dX0_init_26 (Nat.le_of_ble_eq_true rfl) (Nat.le_of_ble_eq_true rfl) (fun a4 => ?_)
  refine v_putF C EN 1 fl_X0_22 fwf_X0_2 rfl rfl rfl (Nat.le_of_ble_eq_true rfl) dX0_init_28 ?_
  refine V.stt (g2 := cI (xK X) a4 96 (fun _ => 0) :: (b, .inr (0, [.ref (h2 0), .ref a3, .ref a4, .null])) :: ((([] : va_W) ++ mS (xK X) h2 m0) ++ [cZ (xK X) a3 96 (fun _ => 0)])) rfl ?_
  refine V.perm (ws' := (b, .inr (0, [.ref (h2 0), .ref a3, .ref a4, .null])) :: (((([] : va_W) ++ mS (xK X) h2 m0) ++ [cZ (xK X) a3 96 (fun _ => 0)]) ++ [cI (xK X) a4 96 (fun _ => 0)])) pA ?_
  refine v_aload_n C dX0_init_31 rfl ?_
  refine v_bipush C dX0_init_32 (v := 96) (by decide) ?_
  refine v_newI C 96 rfl (by decide) dX0_init_34 (Nat.le_of_ble_eq_true rfl) (Nat.le_of_ble_eq_true rfl) (fun a5 => ?_)
  refine v_putF C EN 1 fl_X0_26 fwf_X0_3 rfl rfl rfl (Nat.le_of_ble_eq_true rfl) dX0_init_36 ?_
  refine V.stt (g2 := cI (xK X) a5 96 (fun _ => 0) :: (b, .inr (0, [.ref (h2 0), .ref a3, .ref a4, .ref a5])) :: (((([] : va_W) ++ mS (xK X) h2 m0) ++ [cZ (xK X) a3 96 (fun _ => 0)]) ++ [cI (xK X) a4 96 (fun _ => 0)])) rfl ?_
  refine V.perm (ws' := (b, .inr (0, [.ref (h2 0), .ref a3, .ref a4, .ref a5])) :: ((((([] : va_W) ++ mS (xK X) h2 m0) ++ [cZ (xK X) a3 96 (fun _ => 0)]) ++ [cI (xK X) a4 96 (fun _ => 0)]) ++ [cI (xK X) a5 96 (fun _ => 0)])) pA ?_
  have e1 : mS (xK X) (sh 4 (cat 4 (hlst [b, a3, a4, a5]) h2)) m0 = mS (xK X) h2 m0 := by rw [sh_cat (Nat.le_refl 4), Nat.sub_self, sh_zero]
  have e2 : eS (xK X) (cat 4 (hlst [b, a3, a4, a5]) h2) e0 = [(b, .inr (0, [.ref (h2 0), .ref a3, .ref a4, .ref a5])), cZ (xK X) a3 96 (fun _ => 0), cI (xK X) a4 96 (fun _ => 0), cI (xK X) a5 96 (fun _ => 0)] ++ mS (xK X) h2 m0 := by
    rw [← e1]
    rfl
  exact v_retN C F (cat 4 (hlst [b, a3, a4, a5]) h2) rfl (by rw [e2]; exact pE) dX0_init_39 (Nat.le_of_ble_eq_true rfl) (Nat.le_of_ble_eq_true rfl)
set_option maxHeartbeats 2000000 in
set_option maxRecDepth 20000 in
theorem c_X3_init {S : List SQ} {Ms : List MQ3} {l : Launch} {κ : Kp} (hl : l.stackTraces = false) (b : Nat) : CtN S Ms l κ yX3_init cX3_init 1 2 13 1639 b 3 [.null, .null, .int 0, .int 0, .int 0, .int 0, .int 0, .int 0, .int 0, .int 0, .int 0, .int 0, .int 0, .int 0] (fun h => rS κ h r0) := by
  refine CtN.of (own := RX3) (by decide +kernel) rfl rfl hl (by decide) (fun X hXl hXK C EN F _ => ?_)
  subst hXK
  skip
  refine v_aload_n C dX3_init_0 rfl ?_
  refine v_objInit C ml_X3_3 rfl dX3_init_1 (by decide) ?_
  refine v_aload_n C dX3_init_4 rfl ?_
  refine v_new C nw_X3_9 dX3_init_5 (Nat.le_of_ble_eq_true rfl) (Nat.le_of_ble_eq_true rfl) (fun b1 => ?_)
  refine v_dup C dX3_init_8 rfl ?_
  refine v_callN C EN (by rw [hXl]; exact c_X0_init hl b1) yi_X0 mn_X3_11 rfl dX3_init_9 (by decide) (Nat.le_of_ble_eq_true rfl) (Nat.le_of_ble_eq_true rfl) (Nat.le_of_ble_eq_true rfl) (fun h2 hb2 => ?_)
  subst hb2
  refine V.perm (ws' := (b, .inr (3, [.null, .null, .int 0, .int 0, .int 0, .int 0, .int 0, .int 0, .int 0, .int 0, .int 0, .int 0, .int 0, .int 0])) :: (([] : va_W) ++ eS (xK X) h2 e0)) pB ?_
  refine v_putF C EN 0 fl_X3_12 fwf_X3_0 rfl rfl rfl (Nat.le_of_ble_eq_true rfl) dX3_init_12 ?_
  refine V.stt (g2 := (b, .inr (3, [.ref (h2 0), .null, .int 0, .int 0, .int 0, .int 0, .int 0, .int 0, .int 0, .int 0, .int 0, .int 0, .int 0, .int 0])) :: (([] : va_W) ++ eS (xK X) h2 e0)) rfl ?_
  refine v_aload_n C dX3_init_15 rfl ?_
  refine v_sipush C dX3_init_16 (v := 700) (by decide) ?_
  refine v_newI C 700 rfl (by decide) dX3_init_19 (Nat.le_of_ble_eq_true rfl) (Nat.le_of_ble_eq_true rfl) (fun a3 => ?_)
  refine v_putF C EN 1 fl_X3_18 fwf_X3_1 rfl rfl rfl (Nat.le_of_ble_eq_true rfl) dX3_init_21 ?_
  refine V.stt (g2 := cI (xK X) a3 700 (fun _ => 0) :: (b, .inr (3, [.ref (h2 0), .ref a3, .int 0, .int 0, .int 0, .int 0, .int 0, .int 0, .int 0, .int 0, .int 0, .int 0, .int 0, .int 0])) :: (([] : va_W) ++ eS (xK X) h2 e0)) rfl ?_
  refine V.perm (ws' := (b, .inr (3, [.ref (h2 0), .ref a3, .int 0, .int 0, .int 0, .int 0, .int 0, .int 0, .int 0, .int 0, .int 0, .int 0, .int 0, .int 0])) :: ((([] : va_W) ++ eS (xK X) h2 e0) ++ [cI (xK X) a3 700 (fun _ => 0)])) pA ?_
  refine v_aload_n C dX3_init_24 rfl ?_
  refine v_iconst C dX3_init_25 (v := -1) (by decide) ?_
  refine v_putV C 0 fl_X3_22 fw_X3_4 rfl rfl rfl (Nat.le_of_ble_eq_true rfl) dX3_init_26 ?_
  refine V.stt (g2 := (b, .inr (3, [.ref (h2 0), .ref a3, .int 0, .int 0, .int (-1), .int 0, .int 0, .int 0, .int 0, .int 0, .int 0, .int 0, .int 0, .int 0])) :: ((([] : va_W) ++ eS (xK X) h2 e0) ++ [cI (xK X) a3 700 (fun _ => 0)])) rfl ?_
  have e1 : eS (xK X) (sh 1 (cat 1 (hlst [b]) (cat 12 h2 (hlst [a3])))) e0 = eS (xK X) h2 e0 := by rw [sh_cat (Nat.le_refl 1), Nat.sub_self, sh_zero, eS_cat]
  have e2 : rS (xK X) (cat 1 (hlst [b]) (cat 12 h2 (hlst [a3]))) r0 = [(b, .inr (3, [.ref (h2 0), .ref a3, .int 0, .int 0, .int (-1), .int 0, .int 0, .int 0, .int 0, .int 0, .int 0, .int 0, .int 0, .int 0]))] ++ eS (xK X) h2 e0 ++ [cI (xK X) a3 700 (fun _ => 0)] := by
    rw [← e1]
    rfl
  exact v_retN C F (cat 1 (hlst [b]) (cat 12 h2 (hlst [a3]))) rfl (by rw [e2]; exact List.Perm.refl _) dX3_init_29 (Nat.le_of_ble_eq_true rfl) (Nat.le_of_ble_eq_true rfl)
set_option maxHeartbeats 2000000 in
set_option maxRecDepth 20000 in
theorem c_X1_init {S : List SQ} {Ms : List MQ3} {l : Launch} {κ : Kp} (hl : l.stackTraces = false) (b : Nat) : CtN S Ms l κ yX1_init cX1_init 2 1 65 5184 b 1 [.null, .int 0, .int 0] (fun h => hS κ h h0g) := by
  refine CtN.of (own := RX1) (by decide +kernel) rfl rfl hl (by decide) (fun X hXl hXK C EN F _ => ?_)
  subst hXK
  skip
  refine v_aload_n C dX1_init_0 rfl ?_
  refine v_objInit C ml_X1_3 rfl dX1_init_1 (by decide) ?_
  refine v_aload_n C dX1_init_4 rfl ?_
  refine v_bipush C dX1_init_5 (v := 8) (by decide) ?_
  refine v_newQ C EN 8 rfl (by decide) (TT_t 173 (by decide +kernel) (by decide +kernel)) dX1_init_7 (Nat.le_of_ble_eq_true rfl) (Nat.le_of_ble_eq_true rfl) (fun a1 => ?_)
  refine v_putF C EN 1 fl_X1_11 fwf_X1_0 rfl rfl rfl (Nat.le_of_ble_eq_true rfl) dX1_init_10 ?_
  refine V.stt (g2 := cQ (xK X) a1 8 (fun _ => none) :: (b, .inr (1, [.ref a1, .int 0, .int 0])) :: ([] : va_W)) rfl ?_
  refine V.perm (ws' := (b, .inr (1, [.ref a1, .int 0, .int 0])) :: cQ (xK X) a1 8 (fun _ => none) :: ([] : va_W)) (List.Perm.swap _ _ _) ?_
  refine v_iconst C dX1_init_13 (v := 0) (by decide) ?_
  refine v_istore_n C dX1_init_14 rfl (Nat.le_of_ble_eq_true rfl) rfl ?_
  refine v_iload_n C dX1_init_15 rfl ?_
  refine v_bipush C dX1_init_16 (v := 8) (by decide) ?_
  refine v_icmp_ge C 40 dX1_init_18 (by decide) (fun h => absurd h (by decide)) (fun _ => ?_)
  refine v_aload_n C dX1_init_21 rfl ?_
  refine v_getV C 0 fl_X1_11 rfl rfl dX1_init_22 ?_
  refine v_iload_n C dX1_init_25 rfl ?_
  refine v_new C nw_X1_9 dX1_init_26 (Nat.le_of_ble_eq_true rfl) (Nat.le_of_ble_eq_true rfl) (fun b2 => ?_)
  refine v_dup C dX1_init_29 rfl ?_
  refine v_callN C EN (by rw [hXl]; exact c_X2_init hl b2) yi_X2 mn_X1_17 rfl dX1_init_30 (by decide) (Nat.le_of_ble_eq_true rfl) (Nat.le_of_ble_eq_true rfl) (Nat.le_of_ble_eq_true rfl) (fun h3 hb3 => ?_)
  subst hb3
  refine v_aast C 9 0 0 rfl (by decide) (by decide) rfl rfl dX1_init_33 ?_
  refine V.stt (g2 := mS (xK X) h3 m0 ++ ((b, .inr (1, [.ref a1, .int 0, .int 0])) :: cQ (xK X) a1 8 (va_up (fun _ => none) 0 (some (h3 0))) :: ([] : va_W))) rfl ?_
  refine V.perm (ws' := (b, .inr (1, [.ref a1, .int 0, .int 0])) :: cQ (xK X) a1 8 (va_up (fun _ => none) 0 (some (h3 0))) :: (([] : va_W) ++ mS (xK X) h3 m0)) pC ?_
  refine v_iinc C dX1_init_34 (v := 1) rfl (by decide) rfl rfl ?_
  refine v_goto C 15 dX1_init_37 (by decide) ?_
  refine v_iload_n C dX1_init_15 rfl ?_
  refine v_bipush C dX1_init_16 (v := 8) (by decide) ?_
  refine v_icmp_ge C 40 dX1_init_18 (by decide) (fun h => absurd h (by decide)) (fun _ => ?_)
  refine v_aload_n C dX1_init_21 rfl ?_
  refine v_getV C 0 fl_X1_11 rfl rfl dX1_init_22 ?_
  refine v_iload_n C dX1_init_25 rfl ?_
  refine v_new C nw_X1_9 dX1_init_26 (Nat.le_of_ble_eq_true rfl) (Nat.le_of_ble_eq_true rfl) (fun b4 => ?_)
  refine v_dup C dX1_init_29 rfl ?_
  refine v_callN C EN (by rw [hXl]; exact c_X2_init hl b4) yi_X2 mn_X1_17 rfl dX1_init_30 (by decide) (Nat.le_of_ble_eq_true rfl) (Nat.le_of_ble_eq_true rfl) (Nat.le_of_ble_eq_true rfl) (fun h5 hb5 => ?_)
  subst hb5
  refine v_aast C 9 0 1 rfl (by decide) (by decide) rfl rfl dX1_init_33 ?_
  refine V.stt (g2 := mS (xK X) h5 m0 ++ ((b, .inr (1, [.ref a1, .int 0, .int 0])) :: cQ (xK X) a1 8 (va_up (va_up (fun _ => none) 0 (some (h3 0))) 1 (some (h5 0))) :: (([] : va_W) ++ mS (xK X) h3 m0))) rfl ?_
  refine V.perm (ws' := (b, .inr (1, [.ref a1, .int 0, .int 0])) :: cQ (xK X) a1 8 (va_up (va_up (fun _ => none) 0 (some (h3 0))) 1 (some (h5 0))) :: ((([] : va_W) ++ mS (xK X) h3 m0) ++ mS (xK X) h5 m0)) pC ?_
  refine v_iinc C dX1_init_34 (v := 2) rfl (by decide) rfl rfl ?_
  refine v_goto C 15 dX1_init_37 (by decide) ?_
  refine v_iload_n C dX1_init_15 rfl ?_
  refine v_bipush C dX1_init_16 (v := 8) (by decide) ?_
  refine v_icmp_ge C 40 dX1_init_18 (by decide) (fun h => absurd h (by decide)) (fun _ => ?_)
  refine v_aload_n C dX1_init_21 rfl ?_
  refine v_getV C 0 fl_X1_11 rfl rfl dX1_init_22 ?_
  refine v_iload_n C dX1_init_25 rfl ?_
  refine v_new C nw_X1_9 dX1_init_26 (Nat.le_of_ble_eq_true rfl) (Nat.le_of_ble_eq_true rfl) (fun b6 => ?_)
  refine v_dup C dX1_init_29 rfl ?_
  refine v_callN C EN (by rw [hXl]; exact c_X2_init hl b6) yi_X2 mn_X1_17 rfl dX1_init_30 (by decide) (Nat.le_of_ble_eq_true rfl) (Nat.le_of_ble_eq_true rfl) (Nat.le_of_ble_eq_true rfl) (fun h7 hb7 => ?_)
  subst hb7
  refine v_aast C 9 0 2 rfl (by decide) (by decide) rfl rfl dX1_init_33 ?_
  refine V.stt (g2 := mS (xK X) h7 m0 ++ ((b, .inr (1, [.ref a1, .int 0, .int 0])) :: cQ (xK X) a1 8 (va_up (va_up (va_up (fun _ => none) 0 (some (h3 0))) 1 (some (h5 0))) 2 (some (h7 0))) :: ((([] : va_W) ++ mS (xK X) h3 m0) ++ mS (xK X) h5 m0))) rfl ?_
  refine V.perm (ws' := (b, .inr (1, [.ref a1, .int 0, .int 0])) :: cQ (xK X) a1 8 (va_up (va_up (va_up (fun _ => none) 0 (some (h3 0))) 1 (some (h5 0))) 2 (some (h7 0))) :: (((([] : va_W) ++ mS (xK X) h3 m0) ++ mS (xK X) h5 m0) ++ mS (xK X) h7 m0)) pC ?_
  refine v_iinc C dX1_init_34 (v := 3) rfl (by decide) rfl rfl ?_
  refine v_goto C 15 dX1_init_37 (by decide) ?_
  refine v_iload_n C dX1_init_15 rfl ?_
  refine v_bipush C dX1_init_16 (v := 8) (by decide) ?_
  refine v_icmp_ge C 40 dX1_init_18 (by decide) (fun h => absurd h (by decide)) (fun _ => ?_)
  refine v_aload_n C dX1_init_21 rfl ?_
  refine v_getV C 0 fl_X1_11 rfl rfl dX1_init_22 ?_
  refine v_iload_n C dX1_init_25 rfl ?_
  refine v_new C nw_X1_9 dX1_init_26 (Nat.le_of_ble_eq_true rfl) (Nat.le_of_ble_eq_true rfl) (fun b8 => ?_)
  refine v_dup C dX1_init_29 rfl ?_
  refine v_callN C EN (by rw [hXl]; exact c_X2_init hl b8) yi_X2 mn_X1_17 rfl dX1_init_30 (by decide) (Nat.le_of_ble_eq_true rfl) (Nat.le_of_ble_eq_true rfl) (Nat.le_of_ble_eq_true rfl) (fun h9 hb9 => ?_)
  subst hb9
  refine v_aast C 9 0 3 rfl (by decide) (by decide) rfl rfl dX1_init_33 ?_
  refine V.stt (g2 := mS (xK X) h9 m0 ++ ((b, .inr (1, [.ref a1, .int 0, .int 0])) :: cQ (xK X) a1 8 (va_up (va_up (va_up (va_up (fun _ => none) 0 (some (h3 0))) 1 (some (h5 0))) 2 (some (h7 0))) 3 (some (h9 0))) :: (((([] : va_W) ++ mS (xK X) h3 m0) ++ mS (xK X) h5 m0) ++ mS (xK X) h7 m0))) rfl ?_
  refine V.perm (ws' := (b, .inr (1, [.ref a1, .int 0, .int 0])) :: cQ (xK X) a1 8 (va_up (va_up (va_up (va_up (fun _ => none) 0 (some (h3 0))) 1 (some (h5 0))) 2 (some (h7 0))) 3 (some (h9 0))) :: ((((([] : va_W) ++ mS (xK X) h3 m0) ++ mS (xK X) h5 m0) ++ mS (xK X) h7 m0) ++ mS (xK X) h9 m0)) pC ?_
  refine v_iinc C dX1_init_34 (v := 4) rfl (by decide) rfl rfl ?_
  refine v_goto C 15 dX1_init_37 (by decide) ?_
  refine v_iload_n C dX1_init_15 rfl ?_
  refine v_bipush C dX1_init_16 (v := 8) (by decide) ?_
  refine v_icmp_ge C 40 dX1_init_18 (by decide) (fun h => absurd h (by decide)) (fun _ => ?_)
  refine v_aload_n C dX1_init_21 rfl ?_
  refine v_getV C 0 fl_X1_11 rfl rfl dX1_init_22 ?_
  refine v_iload_n C dX1_init_25 rfl ?_
  refine v_new C nw_X1_9 dX1_init_26 (Nat.le_of_ble_eq_true rfl) (Nat.le_of_ble_eq_true rfl) (fun b10 => ?_)
  refine v_dup C dX1_init_29 rfl ?_
  refine v_callN C EN (by rw [hXl]; exact c_X2_init hl b10) yi_X2 mn_X1_17 rfl dX1_init_30 (by decide) (Nat.le_of_ble_eq_true rfl) (Nat.le_of_ble_eq_true rfl) (Nat.le_of_ble_eq_true rfl) (fun h11 hb11 => ?_)
  subst hb11
  refine v_aast C 9 0 4 rfl (by decide) (by decide) rfl rfl dX1_init_33 ?_
  refine V.stt (g2 := mS (xK X) h11 m0 ++ ((b, .inr (1, [.ref a1, .int 0, .int 0])) :: cQ (xK X) a1 8 (va_up (va_up (va_up (va_up (va_up (fun _ => none) 0 (some (h3 0))) 1 (some (h5 0))) 2 (some (h7 0))) 3 (some (h9 0))) 4 (some (h11 0))) :: ((((([] : va_W) ++ mS (xK X) h3 m0) ++ mS (xK X) h5 m0) ++ mS (xK X) h7 m0) ++ mS (xK X) h9 m0))) rfl ?_
  refine V.perm (ws' := (b, .inr (1, [.ref a1, .int 0, .int 0])) :: cQ (xK X) a1 8 (va_up (va_up (va_up (va_up (va_up (fun _ => none) 0 (some (h3 0))) 1 (some (h5 0))) 2 (some (h7 0))) 3 (some (h9 0))) 4 (some (h11 0))) :: (((((([] : va_W) ++ mS (xK X) h3 m0) ++ mS (xK X) h5 m0) ++ mS (xK X) h7 m0) ++ mS (xK X) h9 m0) ++ mS (xK X) h11 m0)) pC ?_
  refine v_iinc C dX1_init_34 (v := 5) rfl (by decide) rfl rfl ?_
  refine v_goto C 15 dX1_init_37 (by decide) ?_
  refine v_iload_n C dX1_init_15 rfl ?_
  refine v_bipush C dX1_init_16 (v := 8) (by decide) ?_
  refine v_icmp_ge C 40 dX1_init_18 (by decide) (fun h => absurd h (by decide)) (fun _ => ?_)
  refine v_aload_n C dX1_init_21 rfl ?_
  refine v_getV C 0 fl_X1_11 rfl rfl dX1_init_22 ?_
  refine v_iload_n C dX1_init_25 rfl ?_
  refine v_new C nw_X1_9 dX1_init_26 (Nat.le_of_ble_eq_true rfl) (Nat.le_of_ble_eq_true rfl) (fun b12 => ?_)
  refine v_dup C dX1_init_29 rfl ?_
  refine v_callN C EN (by rw [hXl]; exact c_X2_init hl b12) yi_X2 mn_X1_17 rfl dX1_init_30 (by decide) (Nat.le_of_ble_eq_true rfl) (Nat.le_of_ble_eq_true rfl) (Nat.le_of_ble_eq_true rfl) (fun h13 hb13 => ?_)
  subst hb13
  refine v_aast C 9 0 5 rfl (by decide) (by decide) rfl rfl dX1_init_33 ?_
  refine V.stt (g2 := mS (xK X) h13 m0 ++ ((b, .inr (1, [.ref a1, .int 0, .int 0])) :: cQ (xK X) a1 8 (va_up (va_up (va_up (va_up (va_up (va_up (fun _ => none) 0 (some (h3 0))) 1 (some (h5 0))) 2 (some (h7 0))) 3 (some (h9 0))) 4 (some (h11 0))) 5 (some (h13 0))) :: (((((([] : va_W) ++ mS (xK X) h3 m0) ++ mS (xK X) h5 m0) ++ mS (xK X) h7 m0) ++ mS (xK X) h9 m0) ++ mS (xK X) h11 m0))) rfl ?_
  refine V.perm (ws' := (b, .inr (1, [.ref a1, .int 0, .int 0])) :: cQ (xK X) a1 8 (va_up (va_up (va_up (va_up (va_up (va_up (fun _ => none) 0 (some (h3 0))) 1 (some (h5 0))) 2 (some (h7 0))) 3 (some (h9 0))) 4 (some (h11 0))) 5 (some (h13 0))) :: ((((((([] : va_W) ++ mS (xK X) h3 m0) ++ mS (xK X) h5 m0) ++ mS (xK X) h7 m0) ++ mS (xK X) h9 m0) ++ mS (xK X) h11 m0) ++ mS (xK X) h13 m0)) pC ?_
  refine v_iinc C dX1_init_34 (v := 6) rfl (by decide) rfl rfl ?_
  refine v_goto C 15 dX1_init_37 (by decide) ?_
  refine v_iload_n C dX1_init_15 rfl ?_
  refine v_bipush C dX1_init_16 (v := 8) (by decide) ?_
  refine v_icmp_ge C 40 dX1_init_18 (by decide) (fun h => absurd h (by decide)) (fun _ => ?_)
  refine v_aload_n C dX1_init_21 rfl ?_
  refine v_getV C 0 fl_X1_11 rfl rfl dX1_init_22 ?_
  refine v_iload_n C dX1_init_25 rfl ?_
  refine v_new C nw_X1_9 dX1_init_26 (Nat.le_of_ble_eq_true rfl) (Nat.le_of_ble_eq_true rfl) (fun b14 => ?_)
  refine v_dup C dX1_init_29 rfl ?_
  refine v_callN C EN (by rw [hXl]; exact c_X2_init hl b14) yi_X2 mn_X1_17 rfl dX1_init_30 (by decide) (Nat.le_of_ble_eq_true rfl) (Nat.le_of_ble_eq_true rfl) (Nat.le_of_ble_eq_true rfl) (fun h15 hb15 => ?_)
  subst hb15
  refine v_aast C 9 0 6 rfl (by decide) (by decide) rfl rfl dX1_init_33 ?_
  refine V.stt (g2 := mS (xK X) h15 m0 ++ ((b, .inr (1, [.ref a1, .int 0, .int 0])) :: cQ (xK X) a1 8 (va_up (va_up (va_up (va_up (va_up (va_up (va_up (fun _ => none) 0 (some (h3 0))) 1 (some (h5 0))) 2 (some (h7 0))) 3 (some (h9 0))) 4 (some (h11 0))) 5 (some (h13 0))) 6 (some (h15 0))) :: ((((((([] : va_W) ++ mS (xK X) h3 m0) ++ mS (xK X) h5 m0) ++ mS (xK X) h7 m0) ++ mS (xK X) h9 m0) ++ mS (xK X) h11 m0) ++ mS (xK X) h13 m0))) rfl ?_
  refine V.perm (ws' := (b, .inr (1, [.ref a1, .int 0, .int 0])) :: cQ (xK X) a1 8 (va_up (va_up (va_up (va_up (va_up (va_up (va_up (fun _ => none) 0 (some (h3 0))) 1 (some (h5 0))) 2 (some (h7 0))) 3 (some (h9 0))) 4 (some (h11 0))) 5 (some (h13 0))) 6 (some (h15 0))) :: (((((((([] : va_W) ++ mS (xK X) h3 m0) ++ mS (xK X) h5 m0) ++ mS (xK X) h7 m0) ++ mS (xK X) h9 m0) ++ mS (xK X) h11 m0) ++ mS (xK X) h13 m0) ++ mS (xK X) h15 m0)) pC ?_
  refine v_iinc C dX1_init_34 (v := 7) rfl (by decide) rfl rfl ?_
  refine v_goto C 15 dX1_init_37 (by decide) ?_
  refine v_iload_n C dX1_init_15 rfl ?_
  refine v_bipush C dX1_init_16 (v := 8) (by decide) ?_
  refine v_icmp_ge C 40 dX1_init_18 (by decide) (fun h => absurd h (by decide)) (fun _ => ?_)
  refine v_aload_n C dX1_init_21 rfl ?_
  refine v_getV C 0 fl_X1_11 rfl rfl dX1_init_22 ?_
  refine v_iload_n C dX1_init_25 rfl ?_
  refine v_new C nw_X1_9 dX1_init_26 (Nat.le_of_ble_eq_true rfl) (Nat.le_of_ble_eq_true rfl) (fun b16 => ?_)
  refine v_dup C dX1_init_29 rfl ?_
  refine v_callN C EN (by rw [hXl]; exact c_X2_init hl b16) yi_X2 mn_X1_17 rfl dX1_init_30 (by decide) (Nat.le_of_ble_eq_true rfl) (Nat.le_of_ble_eq_true rfl) (Nat.le_of_ble_eq_true rfl) (fun h17 hb17 => ?_)
  subst hb17
  refine v_aast C 9 0 7 rfl (by decide) (by decide) rfl rfl dX1_init_33 ?_
  refine V.stt (g2 := mS (xK X) h17 m0 ++ ((b, .inr (1, [.ref a1, .int 0, .int 0])) :: cQ (xK X) a1 8 (va_up (va_up (va_up (va_up (va_up (va_up (va_up (va_up (fun _ => none) 0 (some (h3 0))) 1 (some (h5 0))) 2 (some (h7 0))) 3 (some (h9 0))) 4 (some (h11 0))) 5 (some (h13 0))) 6 (some (h15 0))) 7 (some (h17 0))) :: (((((((([] : va_W) ++ mS (xK X) h3 m0) ++ mS (xK X) h5 m0) ++ mS (xK X) h7 m0) ++ mS (xK X) h9 m0) ++ mS (xK X) h11 m0) ++ mS (xK X) h13 m0) ++ mS (xK X) h15 m0))) rfl ?_
  refine V.perm (ws' := (b, .inr (1, [.ref a1, .int 0, .int 0])) :: cQ (xK X) a1 8 (va_up (va_up (va_up (va_up (va_up (va_up (va_up (va_up (fun _ => none) 0 (some (h3 0))) 1 (some (h5 0))) 2 (some (h7 0))) 3 (some (h9 0))) 4 (some (h11 0))) 5 (some (h13 0))) 6 (some (h15 0))) 7 (some (h17 0))) :: ((((((((([] : va_W) ++ mS (xK X) h3 m0) ++ mS (xK X) h5 m0) ++ mS (xK X) h7 m0) ++ mS (xK X) h9 m0) ++ mS (xK X) h11 m0) ++ mS (xK X) h13 m0) ++ mS (xK X) h15 m0) ++ mS (xK X) h17 m0)) pC ?_
  refine v_iinc C dX1_init_34 (v := 8) rfl (by decide) rfl rfl ?_
  refine v_goto C 15 dX1_init_37 (by decide) ?_
  refine v_iload_n C dX1_init_15 rfl ?_
  refine v_bipush C dX1_init_16 (v := 8) (by decide) ?_
  refine v_icmp_ge C 40 dX1_init_18 (by decide) (fun _ => ?_) (fun h => absurd (by decide) h)
  have e1 : sh 2 (cat 2 (hlst [b, a1]) (cat 8 h3 (cat 8 h5 (cat 8 h7 (cat 8 h9 (cat 8 h11 (cat 8 h13 (cat 8 h15 h17)))))))) = (cat 8 h3 (cat 8 h5 (cat 8 h7 (cat 8 h9 (cat 8 h11 (cat 8 h13 (cat 8 h15 h17))))))) := by rw [sh_cat (Nat.le_refl 2), Nat.sub_self, sh_zero]
  have m1 : mS (xK X) (sh 2 (cat 2 (hlst [b, a1]) (cat 8 h3 (cat 8 h5 (cat 8 h7 (cat 8 h9 (cat 8 h11 (cat 8 h13 (cat 8 h15 h17))))))))) m0 = mS (xK X) h3 m0 := by
    simp only [sh_cat, Nat.reduceLeDiff, Nat.reduceSub, sh_zero, mS_cat]
  have m2 : mS (xK X) (sh 10 (cat 2 (hlst [b, a1]) (cat 8 h3 (cat 8 h5 (cat 8 h7 (cat 8 h9 (cat 8 h11 (cat 8 h13 (cat 8 h15 h17))))))))) m0 = mS (xK X) h5 m0 := by
    simp only [sh_cat, Nat.reduceLeDiff, Nat.reduceSub, sh_zero, mS_cat]
  have m3 : mS (xK X) (sh 18 (cat 2 (hlst [b, a1]) (cat 8 h3 (cat 8 h5 (cat 8 h7 (cat 8 h9 (cat 8 h11 (cat 8 h13 (cat 8 h15 h17))))))))) m0 = mS (xK X) h7 m0 := by
    simp only [sh_cat, Nat.reduceLeDiff, Nat.reduceSub, sh_zero, mS_cat]
  have m4 : mS (xK X) (sh 26 (cat 2 (hlst [b, a1]) (cat 8 h3 (cat 8 h5 (cat 8 h7 (cat 8 h9 (cat 8 h11 (cat 8 h13 (cat 8 h15 h17))))))))) m0 = mS (xK X) h9 m0 := by
    simp only [sh_cat, Nat.reduceLeDiff, Nat.reduceSub, sh_zero, mS_cat]
  have m5 : mS (xK X) (sh 34 (cat 2 (hlst [b, a1]) (cat 8 h3 (cat 8 h5 (cat 8 h7 (cat 8 h9 (cat 8 h11 (cat 8 h13 (cat 8 h15 h17))))))))) m0 = mS (xK X) h11 m0 := by
    simp only [sh_cat, Nat.reduceLeDiff, Nat.reduceSub, sh_zero, mS_cat]
  have m6 : mS (xK X) (sh 42 (cat 2 (hlst [b, a1]) (cat 8 h3 (cat 8 h5 (cat 8 h7 (cat 8 h9 (cat 8 h11 (cat 8 h13 (cat 8 h15 h17))))))))) m0 = mS (xK X) h13 m0 := by
    simp only [sh_cat, Nat.reduceLeDiff, Nat.reduceSub, sh_zero, mS_cat]
  have m7 : mS (xK X) (sh 50 (cat 2 (hlst [b, a1]) (cat 8 h3 (cat 8 h5 (cat 8 h7 (cat 8 h9 (cat 8 h11 (cat 8 h13 (cat 8 h15 h17))))))))) m0 = mS (xK X) h15 m0 := by
    simp only [sh_cat, Nat.reduceLeDiff, Nat.reduceSub, sh_zero, mS_cat]
  have m8 : mS (xK X) (sh 58 (cat 2 (hlst [b, a1]) (cat 8 h3 (cat 8 h5 (cat 8 h7 (cat 8 h9 (cat 8 h11 (cat 8 h13 (cat 8 h15 h17))))))))) m0 = mS (xK X) h17 m0 := by
    simp only [sh_cat, Nat.reduceLeDiff, Nat.reduceSub, sh_zero, mS_cat]
  have eq : hkq (cat 2 (hlst [b, a1]) (cat 8 h3 (cat 8 h5 (cat 8 h7 (cat 8 h9 (cat 8 h11 (cat 8 h13 (cat 8 h15 h17)))))))) = (va_up (va_up (va_up (va_up (va_up (va_up (va_up (va_up (fun _ => none) 0 (some (h3 0))) 1 (some (h5 0))) 2 (some (h7 0))) 3 (some (h9 0))) 4 (some (h11 0))) 5 (some (h13 0))) 6 (some (h15 0))) 7 (some (h17 0))) := by
    funext j
    match j with
    | 0 => rfl
    | 1 => rfl
    | 2 => rfl
    | 3 => rfl
    | 4 => rfl
    | 5 => rfl
    | 6 => rfl
    | 7 => rfl
    | j + 8 => simp [hkq, va_up]
  have e2 : hS (xK X) (cat 2 (hlst [b, a1]) (cat 8 h3 (cat 8 h5 (cat 8 h7 (cat 8 h9 (cat 8 h11 (cat 8 h13 (cat 8 h15 h17)))))))) h0g = [(b, .inr (1, [.ref a1, .int 0, .int 0])), cQ (xK X) a1 8 (va_up (va_up (va_up (va_up (va_up (va_up (va_up (va_up (fun _ => none) 0 (some (h3 0))) 1 (some (h5 0))) 2 (some (h7 0))) 3 (some (h9 0))) 4 (some (h11 0))) 5 (some (h13 0))) 6 (some (h15 0))) 7 (some (h17 0)))] ++ mS (xK X) h3 m0 ++ mS (xK X) h5 m0 ++ mS (xK X) h7 m0 ++ mS (xK X) h9 m0 ++ mS (xK X) h11 m0 ++ mS (xK X) h13 m0 ++ mS (xK X) h15 m0 ++ mS (xK X) h17 m0 := by
    rw [← eq, ← m1, ← m2, ← m3, ← m4, ← m5, ← m6, ← m7, ← m8]
    rfl
  exact v_retN C F (cat 2 (hlst [b, a1]) (cat 8 h3 (cat 8 h5 (cat 8 h7 (cat 8 h9 (cat 8 h11 (cat 8 h13 (cat 8 h15 h17)))))))) rfl (by rw [e2]; exact List.Perm.refl _) dX1_init_40 (Nat.le_of_ble_eq_true rfl) (Nat.le_of_ble_eq_true rfl)
theorem hS_cat {κ : Kp} {h1 h2 : Nat → Nat} {g : Hg} : hS κ (cat 66 h1 h2) g = hS κ h1 g := by
  have e : ∀ j, j < 66 → cat 66 h1 h2 j = h1 j := fun j hj => if_pos hj
  have es : ∀ o : Nat, o + 8 ≤ 66 → ∀ m : Mg, mS κ (sh o (cat 66 h1 h2)) m = mS κ (sh o h1) m := by
    intro o ho m
    simp only [mS, sh]
    simp only [e (o + 0) (by omega), e (o + 1) (by omega), e (o + 2) (by omega), e (o + 3) (by omega), e (o + 4) (by omega), e (o + 5) (by omega), e (o + 6) (by omega), e (o + 7) (by omega)]
  have eq : hkq (cat 66 h1 h2) = hkq h1 := by
    funext j
    match j with
    | 0 => rfl
    | 1 => rfl
    | 2 => rfl
    | 3 => rfl
    | 4 => rfl
    | 5 => rfl
    | 6 => rfl
    | 7 => rfl
    | j + 8 => rfl
  simp only [hS]
  rw [eq, es 2 (by decide), es 10 (by decide), es 18 (by decide), es 26 (by decide), es 34 (by decide), es 42 (by decide), es 50 (by decide), es 58 (by decide), e 0 (by decide), e 1 (by decide)]
set_option maxHeartbeats 2000000 in
set_option maxRecDepth 20000 in
theorem c_X5_init {S : List SQ} {Ms : List MQ3} {l : Launch} {κ : Kp} (hl : l.stackTraces = false) (b : Nat) : CtN S Ms l κ yX5_init cX5_init 2 3 123 10880 b 5 [.null, .null, .null, .null, .null, .null] (fun h => cS κ h c0) := by
  refine CtN.of (own := RX5) (by decide +kernel) rfl rfl hl (by decide) (fun X hXl hXK C EN F _ => ?_)
  subst hXK
  skip
  refine v_aload_n C dX5_init_0 rfl ?_
  refine v_objInit C ml_X5_1 rfl dX5_init_1 (by decide) ?_
  refine v_aload_n C dX5_init_4 rfl ?_
  refine v_new C nw_X5_7 dX5_init_5 (Nat.le_of_ble_eq_true rfl) (Nat.le_of_ble_eq_true rfl) (fun b1 => ?_)
  refine v_dup C dX5_init_8 rfl ?_
  refine v_callN C EN (by rw [hXl]; exact c_X0_init hl b1) yi_X0 mn_X5_9 rfl dX5_init_9 (by decide) (Nat.le_of_ble_eq_true rfl) (Nat.le_of_ble_eq_true rfl) (Nat.le_of_ble_eq_true rfl) (fun h2 hb2 => ?_)
  subst hb2
  refine V.perm (ws' := (b, .inr (5, [.null, .null, .null, .null, .null, .null])) :: (([] : va_W) ++ eS (xK X) h2 e0)) pB ?_
  refine v_putF C EN 0 fl_X5_10 fwf_X5_0 rfl rfl rfl (Nat.le_of_ble_eq_true rfl) dX5_init_12 ?_
  refine V.stt (g2 := (b, .inr (5, [.ref (h2 0), .null, .null, .null, .null, .null])) :: (([] : va_W) ++ eS (xK X) h2 e0)) rfl ?_
  refine v_aload_n C dX5_init_15 rfl ?_
  refine v_new C nw_X5_7 dX5_init_16 (Nat.le_of_ble_eq_true rfl) (Nat.le_of_ble_eq_true rfl) (fun b3 => ?_)
  refine v_dup C dX5_init_19 rfl ?_
  refine v_callN C EN (by rw [hXl]; exact c_X0_init hl b3) yi_X0 mn_X5_9 rfl dX5_init_20 (by decide) (Nat.le_of_ble_eq_true rfl) (Nat.le_of_ble_eq_true rfl) (Nat.le_of_ble_eq_true rfl) (fun h4 hb4 => ?_)
  subst hb4
  refine V.perm (ws' := (b, .inr (5, [.ref (h2 0), .null, .null, .null, .null, .null])) :: ((([] : va_W) ++ eS (xK X) h2 e0) ++ eS (xK X) h4 e0)) pB ?_
  refine v_putF C EN 0 fl_X5_16 fwf_X5_1 rfl rfl rfl (Nat.le_of_ble_eq_true rfl) dX5_init_23 ?_
  refine V.stt (g2 := (b, .inr (5, [.ref (h2 0), .ref (h4 0), .null, .null, .null, .null])) :: ((([] : va_W) ++ eS (xK X) h2 e0) ++ eS (xK X) h4 e0)) rfl ?_
  refine v_aload_n C dX5_init_26 rfl ?_
  refine v_new C nw_X5_19 dX5_init_27 (Nat.le_of_ble_eq_true rfl) (Nat.le_of_ble_eq_true rfl) (fun b5 => ?_)
  refine v_dup C dX5_init_30 rfl ?_
  refine v_callN C EN (by rw [hXl]; exact c_X3_init hl b5) yi_X3 mn_X5_21 rfl dX5_init_31 (by decide) (Nat.le_of_ble_eq_true rfl) (Nat.le_of_ble_eq_true rfl) (Nat.le_of_ble_eq_true rfl) (fun h6 hb6 => ?_)
  subst hb6
  refine V.perm (ws' := (b, .inr (5, [.ref (h2 0), .ref (h4 0), .null, .null, .null, .null])) :: (((([] : va_W) ++ eS (xK X) h2 e0) ++ eS (xK X) h4 e0) ++ rS (xK X) h6 r0)) pB ?_
  refine v_putF C EN 0 fl_X5_22 fwf_X5_2 rfl rfl rfl (Nat.le_of_ble_eq_true rfl) dX5_init_34 ?_
  refine V.stt (g2 := (b, .inr (5, [.ref (h2 0), .ref (h4 0), .ref (h6 0), .null, .null, .null])) :: (((([] : va_W) ++ eS (xK X) h2 e0) ++ eS (xK X) h4 e0) ++ rS (xK X) h6 r0)) rfl ?_
  refine v_aload_n C dX5_init_37 rfl ?_
  refine v_new C nw_X5_26 dX5_init_38 (Nat.le_of_ble_eq_true rfl) (Nat.le_of_ble_eq_true rfl) (fun b7 => ?_)
  refine v_dup C dX5_init_41 rfl ?_
  refine v_callO C EN (by rw [hXl]; exact c_X1_init hl b7) yi_X1 ml_X5_28 rfl dX5_init_42 (by decide) (Nat.le_of_ble_eq_true rfl) (Nat.le_of_ble_eq_true rfl) (Nat.le_of_ble_eq_true rfl) (fun h8 hb8 => ?_)
  subst hb8
  refine V.perm (ws' := (b, .inr (5, [.ref (h2 0), .ref (h4 0), .ref (h6 0), .null, .null, .null])) :: ((((([] : va_W) ++ eS (xK X) h2 e0) ++ eS (xK X) h4 e0) ++ rS (xK X) h6 r0) ++ hS (xK X) h8 h0g)) pB ?_
  refine v_putF C EN 0 fl_X5_29 fwf_X5_3 rfl rfl rfl (Nat.le_of_ble_eq_true rfl) dX5_init_45 ?_
  refine V.stt (g2 := (b, .inr (5, [.ref (h2 0), .ref (h4 0), .ref (h6 0), .ref (h8 0), .null, .null])) :: ((((([] : va_W) ++ eS (xK X) h2 e0) ++ eS (xK X) h4 e0) ++ rS (xK X) h6 r0) ++ hS (xK X) h8 h0g)) rfl ?_
  refine v_aload_n C dX5_init_48 rfl ?_
  refine v_iconst C dX5_init_49 (v := 2) (by decide) ?_
  refine v_newQ C EN 2 rfl (by decide) (TT_t 187 (by decide +kernel) (by decide +kernel)) dX5_init_50 (Nat.le_of_ble_eq_true rfl) (Nat.le_of_ble_eq_true rfl) (fun a9 => ?_)
  refine v_putF C EN 1 fl_X5_35 fwf_X5_4 rfl rfl rfl (Nat.le_of_ble_eq_true rfl) dX5_init_53 ?_
  refine V.stt (g2 := cQ (xK X) a9 2 (fun _ => none) :: (b, .inr (5, [.ref (h2 0), .ref (h4 0), .ref (h6 0), .ref (h8 0), .ref a9, .null])) :: ((((([] : va_W) ++ eS (xK X) h2 e0) ++ eS (xK X) h4 e0) ++ rS (xK X) h6 r0) ++ hS (xK X) h8 h0g)) rfl ?_
  refine V.perm (ws' := (b, .inr (5, [.ref (h2 0), .ref (h4 0), .ref (h6 0), .ref (h8 0), .ref a9, .null])) :: cQ (xK X) a9 2 (fun _ => none) :: ((((([] : va_W) ++ eS (xK X) h2 e0) ++ eS (xK X) h4 e0) ++ rS (xK X) h6 r0) ++ hS (xK X) h8 h0g)) (List.Perm.swap _ _ _) ?_
  refine v_aload_n C dX5_init_56 rfl ?_
  refine v_new C nw_X5_39 dX5_init_57 (Nat.le_of_ble_eq_true rfl) (Nat.le_of_ble_eq_true rfl) (fun b10 => ?_)
  refine v_dup C dX5_init_60 rfl ?_
  refine v_callN C EN (by rw [hXl]; exact c_X4_init hl b10) yi_X4 mn_X5_41 rfl dX5_init_61 (by decide) (Nat.le_of_ble_eq_true rfl) (Nat.le_of_ble_eq_true rfl) (Nat.le_of_ble_eq_true rfl) (fun h11 hb11 => ?_)
  subst hb11
  refine V.perm (ws' := (b, .inr (5, [.ref (h2 0), .ref (h4 0), .ref (h6 0), .ref (h8 0), .ref a9, .null])) :: cQ (xK X) a9 2 (fun _ => none) :: (((((([] : va_W) ++ eS (xK X) h2 e0) ++ eS (xK X) h4 e0) ++ rS (xK X) h6 r0) ++ hS (xK X) h8 h0g) ++ tS (xK X) h11 m0)) pC ?_
  refine v_putF C EN 0 fl_X5_42 fwf_X5_5 rfl rfl rfl (Nat.le_of_ble_eq_true rfl) dX5_init_64 ?_
  refine V.stt (g2 := (b, .inr (5, [.ref (h2 0), .ref (h4 0), .ref (h6 0), .ref (h8 0), .ref a9, .ref (h11 0)])) :: cQ (xK X) a9 2 (fun _ => none) :: (((((([] : va_W) ++ eS (xK X) h2 e0) ++ eS (xK X) h4 e0) ++ rS (xK X) h6 r0) ++ hS (xK X) h8 h0g) ++ tS (xK X) h11 m0)) rfl ?_
  refine v_iconst C dX5_init_67 (v := 0) (by decide) ?_
  refine v_istore_n C dX5_init_68 rfl (Nat.le_of_ble_eq_true rfl) rfl ?_
  refine v_iload_n C dX5_init_69 rfl ?_
  refine v_iconst C dX5_init_70 (v := 2) (by decide) ?_
  refine v_icmp_ge C 93 dX5_init_71 (by decide) (fun h => absurd h (by decide)) (fun _ => ?_)
  refine v_aload_n C dX5_init_74 rfl ?_
  refine v_getV C 0 fl_X5_35 rfl rfl dX5_init_75 ?_
  refine v_iload_n C dX5_init_78 rfl ?_
  refine v_new C nw_X5_33 dX5_init_79 (Nat.le_of_ble_eq_true rfl) (Nat.le_of_ble_eq_true rfl) (fun b12 => ?_)
  refine v_dup C dX5_init_82 rfl ?_
  refine v_callN C EN (by rw [hXl]; exact c_X2_init hl b12) yi_X2 mn_X5_46 rfl dX5_init_83 (by decide) (Nat.le_of_ble_eq_true rfl) (Nat.le_of_ble_eq_true rfl) (Nat.le_of_ble_eq_true rfl) (fun h13 hb13 => ?_)
  subst hb13
  refine v_aast C 9 0 0 rfl (by decide) (by decide) rfl rfl dX5_init_86 ?_
  refine V.stt (g2 := mS (xK X) h13 m0 ++ ((b, .inr (5, [.ref (h2 0), .ref (h4 0), .ref (h6 0), .ref (h8 0), .ref a9, .ref (h11 0)])) :: cQ (xK X) a9 2 (va_up (fun _ => none) 0 (some (h13 0))) :: (((((([] : va_W) ++ eS (xK X) h2 e0) ++ eS (xK X) h4 e0) ++ rS (xK X) h6 r0) ++ hS (xK X) h8 h0g) ++ tS (xK X) h11 m0))) rfl ?_
  refine V.perm (ws' := (b, .inr (5, [.ref (h2 0), .ref (h4 0), .ref (h6 0), .ref (h8 0), .ref a9, .ref (h11 0)])) :: cQ (xK X) a9 2 (va_up (fun _ => none) 0 (some (h13 0))) :: ((((((([] : va_W) ++ eS (xK X) h2 e0) ++ eS (xK X) h4 e0) ++ rS (xK X) h6 r0) ++ hS (xK X) h8 h0g) ++ tS (xK X) h11 m0) ++ mS (xK X) h13 m0)) pC ?_
  refine v_iinc C dX5_init_87 (v := 1) rfl (by decide) rfl rfl ?_
  refine v_goto C 69 dX5_init_90 (by decide) ?_
  refine v_iload_n C dX5_init_69 rfl ?_
  refine v_iconst C dX5_init_70 (v := 2) (by decide) ?_
  refine v_icmp_ge C 93 dX5_init_71 (by decide) (fun h => absurd h (by decide)) (fun _ => ?_)
  refine v_aload_n C dX5_init_74 rfl ?_
  refine v_getV C 0 fl_X5_35 rfl rfl dX5_init_75 ?_
  refine v_iload_n C dX5_init_78 rfl ?_
  refine v_new C nw_X5_33 dX5_init_79 (Nat.le_of_ble_eq_true rfl) (Nat.le_of_ble_eq_true rfl) (fun b14 => ?_)
  refine v_dup C dX5_init_82 rfl ?_
  refine v_callN C EN (by rw [hXl]; exact c_X2_init hl b14) yi_X2 mn_X5_46 rfl dX5_init_83 (by decide) (Nat.le_of_ble_eq_true rfl) (Nat.le_of_ble_eq_true rfl) (Nat.le_of_ble_eq_true rfl) (fun h15 hb15 => ?_)
  subst hb15
  refine v_aast C 9 0 1 rfl (by decide) (by decide) rfl rfl dX5_init_86 ?_
  refine V.stt (g2 := mS (xK X) h15 m0 ++ ((b, .inr (5, [.ref (h2 0), .ref (h4 0), .ref (h6 0), .ref (h8 0), .ref a9, .ref (h11 0)])) :: cQ (xK X) a9 2 (va_up (va_up (fun _ => none) 0 (some (h13 0))) 1 (some (h15 0))) :: ((((((([] : va_W) ++ eS (xK X) h2 e0) ++ eS (xK X) h4 e0) ++ rS (xK X) h6 r0) ++ hS (xK X) h8 h0g) ++ tS (xK X) h11 m0) ++ mS (xK X) h13 m0))) rfl ?_
  refine V.perm (ws' := (b, .inr (5, [.ref (h2 0), .ref (h4 0), .ref (h6 0), .ref (h8 0), .ref a9, .ref (h11 0)])) :: cQ (xK X) a9 2 (va_up (va_up (fun _ => none) 0 (some (h13 0))) 1 (some (h15 0))) :: (((((((([] : va_W) ++ eS (xK X) h2 e0) ++ eS (xK X) h4 e0) ++ rS (xK X) h6 r0) ++ hS (xK X) h8 h0g) ++ tS (xK X) h11 m0) ++ mS (xK X) h13 m0) ++ mS (xK X) h15 m0)) pC ?_
  refine v_iinc C dX5_init_87 (v := 2) rfl (by decide) rfl rfl ?_
  refine v_goto C 69 dX5_init_90 (by decide) ?_
  refine v_iload_n C dX5_init_69 rfl ?_
  refine v_iconst C dX5_init_70 (v := 2) (by decide) ?_
  refine v_icmp_ge C 93 dX5_init_71 (by decide) (fun _ => ?_) (fun h => absurd (by decide) h)
  have w1 : eS (xK X) (sh 1 (cat 1 (hlst [b]) (cat 12 h2 (cat 12 h4 (cat 14 h6 (cat 66 h8 (cat 1 (hlst [a9]) (cat 8 h13 (cat 8 h15 h11))))))))) e0 = eS (xK X) h2 e0 := by
    simp only [sh_cat, Nat.reduceLeDiff, Nat.reduceSub, sh_zero, eS_cat]
  have w2 : eS (xK X) (sh 13 (cat 1 (hlst [b]) (cat 12 h2 (cat 12 h4 (cat 14 h6 (cat 66 h8 (cat 1 (hlst [a9]) (cat 8 h13 (cat 8 h15 h11))))))))) e0 = eS (xK X) h4 e0 := by
    simp only [sh_cat, Nat.reduceLeDiff, Nat.reduceSub, sh_zero, eS_cat]
  have w3 : rS (xK X) (sh 25 (cat 1 (hlst [b]) (cat 12 h2 (cat 12 h4 (cat 14 h6 (cat 66 h8 (cat 1 (hlst [a9]) (cat 8 h13 (cat 8 h15 h11))))))))) r0 = rS (xK X) h6 r0 := by
    simp only [sh_cat, Nat.reduceLeDiff, Nat.reduceSub, sh_zero, rS_cat]
  have w4 : hS (xK X) (sh 39 (cat 1 (hlst [b]) (cat 12 h2 (cat 12 h4 (cat 14 h6 (cat 66 h8 (cat 1 (hlst [a9]) (cat 8 h13 (cat 8 h15 h11))))))))) h0g = hS (xK X) h8 h0g := by
    simp only [sh_cat, Nat.reduceLeDiff, Nat.reduceSub, sh_zero, hS_cat]
  have w5 : mS (xK X) (sh 106 (cat 1 (hlst [b]) (cat 12 h2 (cat 12 h4 (cat 14 h6 (cat 66 h8 (cat 1 (hlst [a9]) (cat 8 h13 (cat 8 h15 h11))))))))) m0 = mS (xK X) h13 m0 := by
    simp only [sh_cat, Nat.reduceLeDiff, Nat.reduceSub, sh_zero, mS_cat]
  have w6 : mS (xK X) (sh 114 (cat 1 (hlst [b]) (cat 12 h2 (cat 12 h4 (cat 14 h6 (cat 66 h8 (cat 1 (hlst [a9]) (cat 8 h13 (cat 8 h15 h11))))))))) m0 = mS (xK X) h15 m0 := by
    simp only [sh_cat, Nat.reduceLeDiff, Nat.reduceSub, sh_zero, mS_cat]
  have w7 : tS (xK X) (sh 122 (cat 1 (hlst [b]) (cat 12 h2 (cat 12 h4 (cat 14 h6 (cat 66 h8 (cat 1 (hlst [a9]) (cat 8 h13 (cat 8 h15 h11))))))))) m0 = tS (xK X) h11 m0 := by
    simp only [sh_cat, Nat.reduceLeDiff, Nat.reduceSub, sh_zero]
  have eq : skq (cat 1 (hlst [b]) (cat 12 h2 (cat 12 h4 (cat 14 h6 (cat 66 h8 (cat 1 (hlst [a9]) (cat 8 h13 (cat 8 h15 h11)))))))) = (va_up (va_up (fun _ => none) 0 (some (h13 0))) 1 (some (h15 0))) := by
    funext j
    match j with
    | 0 => rfl
    | 1 => rfl
    | j + 2 => simp [skq, va_up]
  have e2 : cS (xK X) (cat 1 (hlst [b]) (cat 12 h2 (cat 12 h4 (cat 14 h6 (cat 66 h8 (cat 1 (hlst [a9]) (cat 8 h13 (cat 8 h15 h11)))))))) c0 = [(b, .inr (5, [.ref (h2 0), .ref (h4 0), .ref (h6 0), .ref (h8 0), .ref a9, .ref (h11 0)]))] ++ eS (xK X) h2 e0 ++ eS (xK X) h4 e0 ++ rS (xK X) h6 r0 ++ hS (xK X) h8 h0g ++ [cQ (xK X) a9 2 (va_up (va_up (fun _ => none) 0 (some (h13 0))) 1 (some (h15 0)))] ++ mS (xK X) h13 m0 ++ mS (xK X) h15 m0 ++ tS (xK X) h11 m0 := by
    rw [← eq, ← w1, ← w2, ← w3, ← w4, ← w5, ← w6, ← w7]
    rfl
  exact v_retN C F (cat 1 (hlst [b]) (cat 12 h2 (cat 12 h4 (cat 14 h6 (cat 66 h8 (cat 1 (hlst [a9]) (cat 8 h13 (cat 8 h15 h11)))))))) rfl (by rw [e2]; exact pX) dX5_init_93 (Nat.le_of_ble_eq_true rfl) (Nat.le_of_ble_eq_true rfl)
