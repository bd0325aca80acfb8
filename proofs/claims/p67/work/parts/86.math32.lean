/-! THE LAW: codes of the refused calls, its frame, its end -/
theorem pl_nn {n : Nat} (h31 : n < 2 ^ 31) : plB n (nI n) = false := by
  rw [pl_n h31]
  exact decide_eq_false (Nat.lt_irrefl n)
theorem pl_00 {n : Nat} (n1 : ¬ n = 0) : plB n (nI 0) = true := by
  rw [pl_n (by decide)]
  exact decide_eq_true (by omega)
theorem pl_m1 {n : Nat} : plB n (-1) = false := by
  unfold plB inB
  rw [decide_eq_false (show ¬ (0 : Int) ≤ (-1 : Int32).toInt by decide)]
  rfl
theorem cdx_p {n : Nat} {a : Int32} {L : List (Bool × Nat)} (n1 : ¬ n = 0) (h : plB n a = false) : cdL ((decide (n = 0), 1) :: (!plB n a, 2) :: L) = 2 := by
  rw [cdL_f (decide_eq_false n1), h]
  rfl
theorem cdx_i {n : Nat} {v : Int32} {a b : Int} {L : List (Bool × Nat)} (n1 : ¬ n = 0) (h : inB v a b = false) : cdL ((decide (n = 0), 1) :: (!inB v a b, 2) :: L) = 2 := by
  rw [cdL_f (decide_eq_false n1), h]
  rfl
theorem cdx_v {n : Nat} {p v : Int32} {a b : Int} {L : List (Bool × Nat)} (n1 : ¬ n = 0) (hp : plB n p = true) (h : inB v a b = false) : cdL ((decide (n = 0), 1) :: (!plB n p, 2) :: (!inB v a b, 3) :: L) = 3 := by
  rw [cdL_f (decide_eq_false n1), hp, h]
  rfl
theorem cdx_q {n : Nat} {p q : Int32} {L : List (Bool × Nat)} (n1 : ¬ n = 0) (hp : plB n p = true) (h : plB n q = false) : cdL ((decide (n = 0), 1) :: (!plB n p, 2) :: (!plB n q, 2) :: L) = 2 := by
  rw [cdL_f (decide_eq_false n1), hp, h]
  rfl
theorem cd_z1 {L : List (Bool × Nat)} : cdL ((decide ((0 : Nat) = 0), 1) :: L) = 1 := rfl
theorem cd_un : cdL [(([] : List Mg).isEmpty, 1)] = 1 := rfl
theorem cd_tx : cdL [(!inB (nI 0) 0 ((([] : List Int32).length : Int) - 1), 1)] = 1 := by
  rw [inB_no (by rw [nI_toInt (by decide)]; exact Or.inr (by decide))]
  rfl
theorem WM_0 : WM 0 0 m0 := ⟨by decide, rfl, fun h => absurd rfl h⟩
theorem HS_0 : HS [] h0g := ⟨0, rfl, by decide, rfl, by decide, fun i hi => absurd hi (Nat.not_lt_zero i)⟩
theorem TX_0 : TX [] m0 := ⟨rfl, fun i hi => absurd hi (Nat.not_lt_zero i)⟩
theorem perm_in {α : Type} {a b c : List α} : (a ++ (b ++ c)).Perm (b ++ (a ++ c)) := by
  rw [← List.append_assoc, ← List.append_assoc]
  exact List.perm_append_comm.append_right _
/-- the law's frame -/
def FinL (X : Cx) (b : Nat) : Prop := xQ X = lw_Z (xb X) #[Value.ref b] (xs X) ∧ xa X = #[Value.ref b] ∧ (xM X).sig.returnType = ret ∧ ∀ q, xA X q → (xs X).heap.size ≤ q
theorem lw_retR {p : Program} {l : Launch} {e : Env} {R : Room} {s : State} {m : MethodId} {below : List Frame} {meth : Method} {c : Code} {b : Nat} {d0 : Drawn} (hd0 : s.drawn.sameBut d0 lw_cs) (hx : p.tables.exec = Jvm.exec) (hb : c.code = code) (hr : meth.sig.returnType = ret) (hlocks : meth.locks = false) {pc : Nat} {H : Heap} {ls : Array Slot} (hdg : decode code pc = .ok (.ireturn, 1)) : W p l e R (s.setDrawn d0) m #[Value.ref b] below meth c H [] 600086 7301442 (lw_Z below #[Value.ref b] s) (F0 m pc ls [.int 1]) := by
  intro T hT X
  obtain ⟨fs, hret, hrun, hended, hW, hframe⟩ := X.leave (v := some (.int 1)) (hlocks := hlocks) (fun h => by rw [hr] at h; cases h)
  have hmeth' : T.vm.method? m = some meth := X.method'
  refine ⟨T.setFrames fs, ?_, .returned (some (.int 1)), hrun, hended, rfl, lw_closed hd0 ⟨_, rfl⟩ hW hframe⟩
  jvm_step X.here [X.here.top, hx, hb, hdg, hmeth', hr, ret, narrow_b1]
  (try refine ⟨rfl, ?_⟩); (try refine ⟨rfl, ?_⟩)
  first | (intro acts; rw [hret _ acts rfl rfl rfl]) | rw [hret _ _ rfl rfl rfl]
  exact Steps.refl _
theorem v_lawret {X : Cx} {kc ks : Nat} (C : Ok SS MM X RL cL_law 5 30 kc ks) {b : Nat} (F : FinL X b) {σ : Type} {Wd : σ → va_W} {pc : Nat} {lo : List (Option Value)} {g : σ} {k n : Nat} (hdg : decode cL_law pc = .ok (.ireturn, 1)) (hk : k ≤ 600086) (hn : n ≤ 7301442) : V X Wd pc lo [.int 1] g k n := by
  intro H locs ls hP hD hS hl
  unfold xW
  rw [F.1, F.2.1]
  refine va_forget (fun q hq => F.2.2.2 _ (hS.2.2 q hq)) (W.widen hk hn ?_)
  exact lw_retR (d0 := (xs X).drawn) (Drawn.sameBut.refl _ _) C.1 C.2.1 F.2.2.1 C.2.2.2.2.2.2.2.1 hdg
section VPL
variable {S : List SQ} {Ms : List MQ3} {X : Cx} {own : String} {cc : ByteArray} {nL d kc ks : Nat} {pc : Nat} {lo : List (Option Value)} {k n : Nat} {ws : va_W} {y : MethodName} {bytes : ByteArray} {maxL d2 mc ms b ci : Nat} {zs : List Value} {Fi : (Nat → Nat) → va_W} {rest : List Value}
theorem v_preL (C : Ok S Ms X own cc nL d kc ks) (hO : EN (xs X)) {H : Heap} {locs : List Loc} (hP : va_P (xK X).1 vwCl ((b, .inr (ci, zs)) :: ws) H) (hD : va_D (xA X) ((b, .inr (ci, zs)) :: ws)) (hS : va_S (xA X) (xs X).heap H locs) {U : State} (hU : U.heap = H) (hW : (xs X).WarmedH U.vm) : PreN S Ms (xK X) b ci zs H.size U := by
  have hF : ∀ q, va_A [(b, .inr (ci, zs))] H.size q → xA X q := va_free hD hS C.2.2.2.2.2.2.1 [0] rfl
  refine ⟨⟨by rw [hU], by rw [hU]; exact hP.sub [0] rfl, va_K.moved hW.alike C.2.2.2.2.2.1, (hD.sub (ws' := [(b, .inr (ci, zs))]) [0] (by decide) rfl).toTrue, ?_⟩, EN.warm hW hO⟩
  rw [hU]
  exact EV.warm hW (EV.narrow (EV.kept C.2.2.2.2.2.2.2.2.2.2 hS.2.1) hF)
theorem v_callL (C : Ok S Ms X own cc nL d kc ks) (hO : EN (xs X)) {idx : Nat}
    (M : CtN S Ms (xl X) (xK X) y bytes maxL d2 mc ms b ci zs Fi) (Y : Yi y bytes maxL) (lk : Cond.methodLink own idx y ∈ TT)
    (hlo : lo.length = nL) (hdg : decode cc pc = .ok (.invokespecial idx, 3)) (hd : d2 < d) (hk : k + mc ≤ kc) (hn : n + ms ≤ ks) (hW : (rest.map fun v => v.category).sum ≤ 8)
    (kk : ∀ h : Nat → Nat, h 0 = b → V X iW (pc + 3) lo rest (Fi h ++ ws) (k + mc) (n + ms)) : V X iW pc lo (.ref b :: rest) ((b, .inr (ci, zs)) :: ws) k n := by
  refine v_callN0 (rest := rest) (a := [Value.ref b].toArray) C (fun H locs ls hP hD hS hl => ?_) kk
  obtain ⟨⟨y1, y2, y3⟩, y4, y5, y6⟩ := Y
  have hT : GoodIn TT (wT y bytes maxL none) := TT_in _ (wT_in y3)
  have hR := C.2.2.2.2.2.2.2.2.2.1
  refine vx_runI (nL := nL) (Ts := TT) (own := own) (b := b) (As := []) (n := 0) ⟨C.1, C.2.1, C.2.2.1, C.2.2.2.1, C.2.2.2.2.1⟩ (M H.size) (cwI (rm := rmL d2 mc ms) 0 C.2.2.2.2.1 hT rfl rfl rfl (C.2.2.2.2.1 _ y2) (C.2.2.2.2.1 _ lk) (C.2.2.2.2.1 _ y1) y4 y5 (by rw [hR]; exact rm_fits hd y6)) ⟨PreN.blind, fun U hU hW => ⟨rfl, v_preL C hO hP hD hS hU hW⟩⟩ rfl rfl (by rw [← hlo]; exact hl.1) rfl (by simpa using hW) hdg ?_
  rw [hR]
  exact ⟨hk, hn⟩
end VPL
