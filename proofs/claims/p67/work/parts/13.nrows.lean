section IDE
variable {κ : Kp} {h : Nat → Nat}
theorem Seg.idn {σ : Type} {Wd : σ → va_W} : Seg Wd Wd (fun g => g) (fun _ u => u) 0 := ⟨fun _ => [], fun _ => [], fun g => by simp, fun _ => rfl, fun g u => by simp⟩
theorem emb_id_mS : Emb (mS κ h) (mS κ h) (fun g => g) (fun _ u => u) (List.range' 0 8) := Seg.emb Seg.idn fix_mS len_mS
theorem emb_id_eS : Emb (eS κ h) (eS κ h) (fun g => g) (fun _ u => u) (List.range' 0 12) := Seg.emb Seg.idn fix_eS len_eS
theorem emb_id_tS : Emb (tS κ h) (tS κ h) (fun g => g) (fun _ u => u) (List.range' 0 2) := Seg.emb Seg.idn fix_tS len_tS
theorem emb_id_rS : Emb (rS κ h) (rS κ h) (fun g => g) (fun _ u => u) (List.range' 0 14) := Seg.emb Seg.idn fix_rS len_rS
theorem len_cS (u : Cg) : (cS κ h u).length = 124 := by simp [cS, len_mS, len_eS, len_rS, len_hS, len_tS]
theorem len_qS (u : G) : (qS κ h u).length = 7 := rfl
theorem emb_id_cS : Emb (cS κ h) (cS κ h) (fun g => g) (fun _ u => u) (List.range' 0 124) := Seg.emb Seg.idn fix_cS len_cS
theorem emb_id_qS : Emb (qS κ h) (qS κ h) (fun g => g) (fun _ u => u) (List.range' 0 7) := Seg.emb Seg.idn fix_qS len_qS
end IDE
theorem sub_toInt {x y : Int32} {n : Int} (h : 0 ≤ y.toInt ∧ y.toInt < x.toInt) (hx : x.toInt = n) : (x - y).toInt = n - y.toInt := by
  have a1 := Int32.toInt_lt x
  rw [Int32.toInt_sub, Int.bmod_eq_of_le] <;> omega
theorem sub1_toInt {n : Nat} (h : n < 2 ^ 31) : (nI n - nI 1).toInt = (n : Int) - 1 := by
  have a1 := nI_toInt h
  have a2 : (nI 1).toInt = 1 := by decide
  rw [Int32.toInt_sub, Int.bmod_eq_of_le] <;> omega
theorem nI_sub {a b : Nat} (h : b ≤ a) : nI a - nI b = nI (a - b) := by
  have e : nI a = nI (a - b) + nI b := by rw [nI_add]; exact congrArg nI (by omega)
  rw [e, Int32.add_sub_cancel]
theorem nI_of_toInt {x : Int32} {a : Nat} (ha : a < 2 ^ 31) (h : x.toInt = (a : Int)) : x = nI a := by
  have h2 := (nI_of_nonneg (x := x) (by omega)).1
  rw [h2]
  exact congrArg nI (by omega)
theorem nI_div {a b : Nat} (ha : a < 2 ^ 31) (hb : b < 2 ^ 31) : nI a / nI b = nI (a / b) := by
  have h0 : a / b ≤ a := Nat.div_le_self _ _
  refine nI_of_toInt (Nat.lt_of_le_of_lt h0 ha) ?_
  rw [Int32.toInt_div, nI_toInt ha, nI_toInt hb]
  rw [← Int.ofNat_tdiv]
  generalize a / b = c at h0 ⊢
  rw [Int.bmod_eq_of_le] <;> omega
theorem nI_rem {a b : Nat} (ha : a < 2 ^ 31) (hb : b < 2 ^ 31) (h0 : 0 < b) : nI a - nI a / nI b * nI b = nI (a % b) := by
  have h1 := Nat.div_mul_le_self a b
  have h2 := Nat.div_add_mod a b
  rw [nI_div ha hb, nI_mul, nI_sub h1]
  exact congrArg nI (by have := Nat.mul_comm (a / b) b; omega)
section NR
variable {S : List SQ} {Ms : List MQ3} {X : Cx} {own : String} {cc : ByteArray} {nL d kc ks : Nat} {σ : Type} {Wd : σ → va_W} {pc : Nat} {lo : List (Option Value)} {st : List Value} {g : σ} {k n : Nat}
theorem v_icmp_ltN (C : Ok S Ms X own cc nL d kc ks) {a b : Nat} {off : Int} (tgt : Nat) (hdg : decode cc pc = .ok (.if_icmp .lt off, 3)) (ht : (pc : Int) + off = (tgt : Int)) (ha : a < 2 ^ 31) (hb : b < 2 ^ 31) (kt : a < b → V X Wd tgt lo st g k n) (kf : b ≤ a → V X Wd (pc + 3) lo st g k n) : V X Wd pc lo (.int (nI b) :: .int (nI a) :: st) g k n := v_icmp_lt C tgt hdg ht (fun c => kt (by rw [nI_toInt ha, nI_toInt hb] at c; omega)) (fun c => kf (by rw [nI_toInt ha, nI_toInt hb] at c; omega))
theorem v_icmp_geN (C : Ok S Ms X own cc nL d kc ks) {a b : Nat} {off : Int} (tgt : Nat) (hdg : decode cc pc = .ok (.if_icmp .ge off, 3)) (ht : (pc : Int) + off = (tgt : Int)) (ha : a < 2 ^ 31) (hb : b < 2 ^ 31) (kt : b ≤ a → V X Wd tgt lo st g k n) (kf : a < b → V X Wd (pc + 3) lo st g k n) : V X Wd pc lo (.int (nI b) :: .int (nI a) :: st) g k n := v_icmp_ge C tgt hdg ht (fun c => kt (by rw [nI_toInt ha, nI_toInt hb] at c; omega)) (fun c => kf (by rw [nI_toInt ha, nI_toInt hb] at c; omega))
theorem v_icmp_gtN (C : Ok S Ms X own cc nL d kc ks) {a b : Nat} {off : Int} (tgt : Nat) (hdg : decode cc pc = .ok (.if_icmp .gt off, 3)) (ht : (pc : Int) + off = (tgt : Int)) (ha : a < 2 ^ 31) (hb : b < 2 ^ 31) (kt : b < a → V X Wd tgt lo st g k n) (kf : a ≤ b → V X Wd (pc + 3) lo st g k n) : V X Wd pc lo (.int (nI b) :: .int (nI a) :: st) g k n := v_icmp_gt C tgt hdg ht (fun c => kt (by rw [nI_toInt ha, nI_toInt hb] at c; omega)) (fun c => kf (by rw [nI_toInt ha, nI_toInt hb] at c; omega))
theorem v_icmp_leN (C : Ok S Ms X own cc nL d kc ks) {a b : Nat} {off : Int} (tgt : Nat) (hdg : decode cc pc = .ok (.if_icmp .le off, 3)) (ht : (pc : Int) + off = (tgt : Int)) (ha : a < 2 ^ 31) (hb : b < 2 ^ 31) (kt : a ≤ b → V X Wd tgt lo st g k n) (kf : b < a → V X Wd (pc + 3) lo st g k n) : V X Wd pc lo (.int (nI b) :: .int (nI a) :: st) g k n := v_icmp_le C tgt hdg ht (fun c => kt (by rw [nI_toInt ha, nI_toInt hb] at c; omega)) (fun c => kf (by rw [nI_toInt ha, nI_toInt hb] at c; omega))
theorem v_icmp_eqN (C : Ok S Ms X own cc nL d kc ks) {a b : Nat} {off : Int} (tgt : Nat) (hdg : decode cc pc = .ok (.if_icmp .eq off, 3)) (ht : (pc : Int) + off = (tgt : Int)) (ha : a < 2 ^ 31) (hb : b < 2 ^ 31) (kt : a = b → V X Wd tgt lo st g k n) (kf : ¬ a = b → V X Wd (pc + 3) lo st g k n) : V X Wd pc lo (.int (nI b) :: .int (nI a) :: st) g k n := v_icmp_eq C tgt hdg ht (fun c => kt (nI_inj ha hb c)) (fun c => kf (fun e => c (congrArg nI e)))
theorem v_icmp_neN (C : Ok S Ms X own cc nL d kc ks) {a b : Nat} {off : Int} (tgt : Nat) (hdg : decode cc pc = .ok (.if_icmp .ne off, 3)) (ht : (pc : Int) + off = (tgt : Int)) (ha : a < 2 ^ 31) (hb : b < 2 ^ 31) (kt : ¬ a = b → V X Wd tgt lo st g k n) (kf : a = b → V X Wd (pc + 3) lo st g k n) : V X Wd pc lo (.int (nI b) :: .int (nI a) :: st) g k n := v_icmp_ne C tgt hdg ht (fun c => kt (fun e => c (congrArg nI e))) (fun c => kf (nI_inj ha hb c))
theorem v_if_eqB (C : Ok S Ms X own cc nL d kc ks) {b : Bool} {off : Int} (tgt : Nat) (hdg : decode cc pc = .ok (.ifCond .eq off, 3)) (ht : (pc : Int) + off = (tgt : Int)) (kt : b = false → V X Wd tgt lo st g k n) (kf : b = true → V X Wd (pc + 3) lo st g k n) : V X Wd pc lo (.int (bI b) :: st) g k n := v_if_eq C tgt hdg ht (fun c => kt (bI_eq.mp c)) (fun c => kf (bI_ne.mp c))
theorem v_if_neB (C : Ok S Ms X own cc nL d kc ks) {b : Bool} {off : Int} (tgt : Nat) (hdg : decode cc pc = .ok (.ifCond .ne off, 3)) (ht : (pc : Int) + off = (tgt : Int)) (kt : b = true → V X Wd tgt lo st g k n) (kf : b = false → V X Wd (pc + 3) lo st g k n) : V X Wd pc lo (.int (bI b) :: st) g k n := v_if_ne C tgt hdg ht (fun c => kt (bI_ne.mp c)) (fun c => kf (bI_eq.mp c))
theorem v_isubN (C : Ok S Ms X own cc nL d kc ks) {a b : Nat} (hdg : decode cc pc = .ok (.isub, 1)) (h : b ≤ a) (kk : V X Wd (pc + 1) lo (.int (nI (a - b)) :: st) g k n) : V X Wd pc lo (.int (nI b) :: .int (nI a) :: st) g k n := v_isub C hdg (by rw [nI_sub h]; exact kk)
theorem v_idivN (C : Ok S Ms X own cc nL d kc ks) {a b : Nat} (hdg : decode cc pc = .ok (.idiv, 1)) (ha : a < 2 ^ 31) (hb : b < 2 ^ 31) (h0 : 0 < b) (kk : V X Wd (pc + 1) lo (.int (nI (a / b)) :: st) g k n) : V X Wd pc lo (.int (nI b) :: .int (nI a) :: st) g k n := v_idiv C hdg (fun e => by have := nI_inj hb (by omega) (show nI b = nI 0 from e); omega) (by rw [nI_div ha hb]; exact kk)
theorem v_iremN (C : Ok S Ms X own cc nL d kc ks) {a b : Nat} (hdg : decode cc pc = .ok (.irem, 1)) (ha : a < 2 ^ 31) (hb : b < 2 ^ 31) (h0 : 0 < b) (kk : V X Wd (pc + 1) lo (.int (nI (a % b)) :: st) g k n) : V X Wd pc lo (.int (nI b) :: .int (nI a) :: st) g k n := v_irem C hdg (fun e => by have := nI_inj hb (by omega) (show nI b = nI 0 from e); omega) (by rw [nI_rem ha hb h0]; exact kk)
end NR
