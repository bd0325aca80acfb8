theorem sh_sh {α : Type} {a b : Nat} {h : Nat → α} : sh a (sh b h) = sh (b + a) h := by
  funext i
  show h (b + (a + i)) = h (b + a + i)
  rw [Nat.add_assoc]
section CG
variable {κ : Kp} {h h' : Nat → Nat}
theorem mS_cg {o : Nat} {g : Mg} (e : ∀ i, i < 8 → h (o + i) = h' (o + i)) : mS κ (sh o h) g = mS κ (sh o h') g := by
  simp only [mS, sh]
  rw [e 0 (by decide), e 1 (by decide), e 2 (by decide), e 3 (by decide), e 4 (by decide), e 5 (by decide), e 6 (by decide), e 7 (by decide)]
theorem eS_cg {o : Nat} {g : Eg} (e : ∀ i, i < 12 → h (o + i) = h' (o + i)) : eS κ (sh o h) g = eS κ (sh o h') g := by
  have m : mS κ (sh 4 (sh o h)) g.2 = mS κ (sh 4 (sh o h')) g.2 := by
    rw [sh_sh, sh_sh]
    exact mS_cg (fun i hi => by rw [Nat.add_assoc]; exact e (4 + i) (by omega))
  simp only [eS]
  rw [m]
  simp only [sh]
  rw [e 0 (by decide), e 1 (by decide), e 2 (by decide), e 3 (by decide), e 4 (by decide)]
theorem tS_cg {o : Nat} {g : G} (e : ∀ i, i < 2 → h (o + i) = h' (o + i)) : tS κ (sh o h) g = tS κ (sh o h') g := by
  simp only [tS, sh]
  rw [e 0 (by decide), e 1 (by decide)]
theorem rS_cg {o : Nat} {g : Rg} (e : ∀ i, i < 14 → h (o + i) = h' (o + i)) : rS κ (sh o h) g = rS κ (sh o h') g := by
  have m : eS κ (sh 1 (sh o h)) g.2 = eS κ (sh 1 (sh o h')) g.2 := by
    rw [sh_sh, sh_sh]
    exact eS_cg (fun i hi => by rw [Nat.add_assoc]; exact e (1 + i) (by omega))
  simp only [rS]
  rw [m]
  simp only [sh]
  rw [e 0 (by decide), e 1 (by decide), e 13 (by decide)]
theorem hS_cg {o : Nat} {g : Hg} (e : ∀ i, i < 66 → h (o + i) = h' (o + i)) : hS κ (sh o h) g = hS κ (sh o h') g := by
  have m : ∀ a, a + 8 ≤ 66 → ∀ x : Mg, mS κ (sh a (sh o h)) x = mS κ (sh a (sh o h')) x := by
    intro a ha x
    rw [sh_sh, sh_sh]
    exact mS_cg (fun i hi => by rw [Nat.add_assoc]; exact e (a + i) (by omega))
  have q : hkq (sh o h) = hkq (sh o h') := by
    funext j
    match j with
    | 0 => exact congrArg some (e 2 (by decide))
    | 1 => exact congrArg some (e 10 (by decide))
    | 2 => exact congrArg some (e 18 (by decide))
    | 3 => exact congrArg some (e 26 (by decide))
    | 4 => exact congrArg some (e 34 (by decide))
    | 5 => exact congrArg some (e 42 (by decide))
    | 6 => exact congrArg some (e 50 (by decide))
    | 7 => exact congrArg some (e 58 (by decide))
    | j + 8 => rfl
  simp only [hS]
  rw [q, m 2 (by decide), m 10 (by decide), m 18 (by decide), m 26 (by decide), m 34 (by decide), m 42 (by decide), m 50 (by decide), m 58 (by decide)]
  simp only [sh]
  rw [e 0 (by decide), e 1 (by decide)]
theorem cS_cg {g : Cg} (e : ∀ i, i < 124 → h i = h' i) : cS κ h g = cS κ h' g := by
  have q : skq h = skq h' := by
    funext j
    match j with
    | 0 => exact congrArg some (e 106 (by decide))
    | 1 => exact congrArg some (e 114 (by decide))
    | j + 2 => rfl
  simp only [cS]
  rw [q, eS_cg (o := 1) (h := h) (h' := h') (fun i hi => e _ (by omega)), eS_cg (o := 13) (h := h) (h' := h') (fun i hi => e _ (by omega)), rS_cg (o := 25) (h := h) (h' := h') (fun i hi => e _ (by omega)), hS_cg (o := 39) (h := h) (h' := h') (fun i hi => e _ (by omega)), mS_cg (o := 106) (h := h) (h' := h') (fun i hi => e _ (by omega)), mS_cg (o := 114) (h := h) (h' := h') (fun i hi => e _ (by omega)), tS_cg (o := 122) (h := h) (h' := h') (fun i hi => e _ (by omega))]
  rw [e 0 (by decide), e 1 (by decide), e 13 (by decide), e 25 (by decide), e 39 (by decide), e 105 (by decide), e 122 (by decide)]
end CG
theorem pL {α : Type} {d j : α} {Q C : List α} : (d :: j :: (Q ++ (C ++ []))).Perm (C ++ [j, d] ++ Q) := by
  have h1 : C ++ [j, d] ++ Q = C ++ (j :: d :: Q) := by simp only [List.append_assoc, List.cons_append, List.nil_append]
  rw [h1, List.append_nil]
  refine (List.Perm.swap _ _ _).trans ?_
  refine List.Perm.trans ?_ List.perm_middle.symm
  refine List.Perm.cons _ ?_
  refine List.Perm.trans ?_ List.perm_middle.symm
  exact List.Perm.cons _ List.perm_append_comm
theorem INV0 : INV 20 c0 q0g := by
  refine ⟨0, m0, [], fun _ => false, fun _ => m0, [], 0, fun _ => 0, 0, -1, m0, m0, r0.1, m0, m0, m0, h0g, fun _ => m0, m0, rfl, ⟨⟨⟨0, by decide, by decide, rfl, fun h => absurd rfl h⟩, fun _ => ⟨rfl, rfl⟩⟩, ⟨⟨0, rfl, by decide, rfl, by decide, fun i hi => absurd hi (Nat.not_lt_zero i)⟩, (fun y hy => by cases hy)⟩, fun j hj => ⟨(fun h => by cases h), fun _ => rfl⟩, ⟨⟨rfl, fun i hi => absurd hi (Nat.not_lt_zero i)⟩, by decide⟩, ⟨rfl, by decide, rfl, (fun i => by show (0 : Int) ≤ (0 : Int32).toInt; decide)⟩, rfl, rfl⟩, ⟨⟨rfl, rfl, by decide, fun h => absurd rfl h⟩, fun _ => rfl, ⟨rfl, by decide, fun i hi => absurd hi (Nat.not_lt_zero i)⟩, ⟨fun j hj => ?_, (fun j hj h => by cases h)⟩, ⟨rfl, fun i hi => absurd hi (Nat.not_lt_zero i)⟩, ⟨rfl, rfl⟩, rfl, rfl⟩, fun j hj _ p hp => ⟨false, rfl⟩⟩
  rfl
/-- the law's frame -/
def FinL (X : Cx) (b : Nat) : Prop := xQ X = lw_Z (xb X) #[Value.ref b] (xs X) ∧ xa X = #[Value.ref b] ∧ (xM X).sig.returnType = ret ∧ ∀ q, xA X q → (xs X).heap.size ≤ q
theorem v_lawret {X : Cx} {kc ks : Nat} (C : Ok SS MM X RL cL_law 9 30 kc ks) {b : Nat} (F : FinL X b) {σ : Type} {Wd : σ → va_W} {pc : Nat} {lo : List (Option Value)} {g : σ} {k n : Nat} (hdg : decode cL_law pc = .ok (.ireturn, 1)) (hk : k ≤ 601024) (hn : n ≤ 7293034) : V X Wd pc lo [.int 1] g k n := by
  intro H locs ls hP hD hS hl
  unfold xW
  rw [F.1, F.2.1]
  refine va_forget (fun q hq => F.2.2.2 _ (hS.2.2 q hq)) (W.widen hk hn ?_)
  exact lw_retR (d0 := (xs X).drawn) (Drawn.sameBut.refl _ _) C.1 C.2.1 F.2.2.1 C.2.2.2.2.2.2.2.1 hdg
section VPL
variable {S : List SQ} {Ms : List MQ3} {X : Cx} {own : String} {cc : ByteArray} {nL d kc ks : Nat} {pc : Nat} {lo : List (Option Value)} {k n : Nat} {ws : va_W} {y : MethodName} {bytes : ByteArray} {maxL d2 mc ms b ci : Nat} {zs : List Value} {Fi : (Nat → Nat) → va_W} {rest : List Value}
theorem v_preL (C : Ok S Ms X own cc nL d kc ks) (hO : EN (xs X)) {H : Heap} {locs : List Loc} (hP : va_P (xK X).1 vwCl ((b, .inr (ci, zs)) :: ws) H) (hD : va_D (xA X) ((b, .inr (ci, zs)) :: ws)) (hS : va_S (xA X) (xs X).heap H locs) {U : State} (hU : U.heap = H) (hW : (xs X).WarmedH U.vm) : PreN S Ms (xK X) b ci zs H.size U := by
  have hF : ∀ q, va_A [(b, .inr (ci, zs))] H.size q → xA X q := va_free hD hS C.2.2.2.2.2.2.1 [0] rfl
  refine ⟨⟨by rw [hU], by rw [hU]; exact hP.sub [0] rfl, va_K.moved hW.alike C.2.2.2.2.2.1, (hD.sub (ws' := [(b, .inr (ci, zs))]) [0] (by decide) rfl).toTrue, ?_⟩, EN.warm hW hO⟩
  rw [hU]
  exact EV.warm hW (EV.narrow (EV.kept C.2.2.2.2.2.2.2.2.2.2 hS.2.1) hF)
theorem v_callL (C : Ok S Ms X own cc nL d kc ks) (hO : EN (xs X)) {idx : Nat}
    (M : CtN S Ms (xl X) (xK X) y bytes maxL d2 mc ms b ci zs Fi) (Y : Yi y bytes maxL) (lk : Cond.methodLink own idx y ∈ TT)
    (hlo : lo.length = nL) (hdg : decode cc pc = .ok (.invokespecial idx, 3)) (hd : d2 < d) (hk : k + mc ≤ kc) (hn : n + ms ≤ ks) (hW : (rest.map fun v => v.category).sum ≤ 8)
    (kk : ∀ h : Nat → Nat, h 0 = b → V X iW (pc + 3) lo rest (Fi h ++ ws) (k + mc) (n + ms)) : V X iW pc lo (.ref b :: rest) ((b, .inr (ci, zs)) :: ws) k n := by
  refine v_callN0 (rest := rest) (a := [Value.ref b].toArray) C (fun H locs ls hP hD hS hl => ?_) kk
  obtain ⟨⟨y1, y2, y3⟩, y4, y5, y6⟩ := Y
  have hT : GoodIn TT (wT y bytes maxL none) := TT_in _ (wT_in y3)
  have hR := C.2.2.2.2.2.2.2.2.2.1
  refine vx_runI (nL := nL) (Ts := TT) (own := own) (b := b) (As := []) (n := 0) ⟨C.1, C.2.1, C.2.2.1, C.2.2.2.1, C.2.2.2.2.1⟩ (M H.size) (cwI (rm := rmL d2 mc ms) 0 C.2.2.2.2.1 hT rfl rfl rfl (C.2.2.2.2.1 _ y2) (C.2.2.2.2.1 _ lk) (C.2.2.2.2.1 _ y1) y4 y5 (by rw [hR]; exact rm_fits hd y6)) ⟨PreN.blind, fun U hU hW => ⟨rfl, v_preL C hO hP hD hS hU hW⟩⟩ rfl rfl (by rw [← hlo]; exact hl.1) rfl (by simpa using hW) hdg ?_
  rw [hR]
  exact ⟨hk, hn⟩
end VPL
theorem and63 (x : Int32) : ∃ u, u < 64 ∧ x &&& 63 = nI u := pk_andE x (m := 63) 6 (by decide)
set_option maxHeartbeats 2000000 in
set_option maxRecDepth 20000 in
theorem law_case {X : Cx} {kc ks : Nat} (hl : (xl X).stackTraces = false) (C : Ok SS MM X RL cL_law 9 30 kc ks) {b L : Nat} {w : Nat → Int32} (Z : Lok X b L w) {h : Nat → Nat} {j : Nat} (hj : 6 * j + 6 ≤ L) (hL : L ≤ 3072) {c : Cg} {o : Nat → Int64} {dd : Nat → UInt64} {q : G} (I : INV (20 + j) c q) {k n : Nat} (hk : k + 6 ≤ kc) (hn : n + 36 ≤ ks) (back : ∀ c2 o2 d2 q2, INV (20 + j + 1) c2 q2 → V X (lS (xK X) h) 3915 [some (.ref b), some (.ref (h 0)), some (.ref (sh 126 h 0)), some (.ref (h 124)), some (.ref (h 125)), some (.int (nI (6 * j))), none, none, none] [] (c2, o2, d2, q2) (k + 6) (n + 36)) (u : Nat) (hu : u < 64) : V X (lS (xK X) h) 45 [some (.ref b), some (.ref (h 0)), some (.ref (sh 126 h 0)), some (.ref (h 124)), some (.ref (h 125)), some (.int (nI (6 * j))), none, none, none] [.int (nI u)] (c, o, dd, q) k n := by
  match u, hu with
  | 0, _ => exact v_tableIn C 316 dL_law_45 (by decide) (by decide) (by rfl) (by decide) (k_0 hl C Z hj hL I hk hn back)
  | 1, _ => exact v_tableIn C 389 dL_law_45 (by decide) (by decide) (by rfl) (by decide) (k_1 hl C Z hj hL I hk hn back)
  | 2, _ => exact v_tableIn C 445 dL_law_45 (by decide) (by decide) (by rfl) (by decide) (k_2 hl C Z hj hL I hk hn back)
  | 3, _ => exact v_tableIn C 458 dL_law_45 (by decide) (by decide) (by rfl) (by decide) (k_3 hl C Z hj hL I hk hn back)
  | 4, _ => exact v_tableIn C 471 dL_law_45 (by decide) (by decide) (by rfl) (by decide) (k_4 hl C Z hj hL I hk hn back)
  | 5, _ => exact v_tableIn C 484 dL_law_45 (by decide) (by decide) (by rfl) (by decide) (k_5 hl C Z hj hL I hk hn back)
  | 6, _ => exact v_tableIn C 497 dL_law_45 (by decide) (by decide) (by rfl) (by decide) (k_6 hl C Z hj hL I hk hn back)
  | 7, _ => exact v_tableIn C 553 dL_law_45 (by decide) (by decide) (by rfl) (by decide) (k_7 hl C Z hj hL I hk hn back)
  | 8, _ => exact v_tableIn C 609 dL_law_45 (by decide) (by decide) (by rfl) (by decide) (k_8 hl C Z hj hL I hk hn back)
  | 9, _ => exact v_tableIn C 665 dL_law_45 (by decide) (by decide) (by rfl) (by decide) (k_9 hl C Z hj hL I hk hn back)
  | 10, _ => exact v_tableIn C 721 dL_law_45 (by decide) (by decide) (by rfl) (by decide) (k_10 hl C Z hj hL I hk hn back)
  | 11, _ => exact v_tableIn C 777 dL_law_45 (by decide) (by decide) (by rfl) (by decide) (k_11 hl C Z hj hL I hk hn back)
  | 12, _ => exact v_tableIn C 833 dL_law_45 (by decide) (by decide) (by rfl) (by decide) (k_12 hl C Z hj hL I hk hn back)
  | 13, _ => exact v_tableIn C 889 dL_law_45 (by decide) (by decide) (by rfl) (by decide) (k_13 hl C Z hj hL I hk hn back)
  | 14, _ => exact v_tableIn C 952 dL_law_45 (by decide) (by decide) (by rfl) (by decide) (k_14 hl C Z hj hL I hk hn back)
  | 15, _ => exact v_tableIn C 1036 dL_law_45 (by decide) (by decide) (by rfl) (by decide) (k_15 hl C Z hj hL I hk hn back)
  | 16, _ => exact v_tableIn C 1080 dL_law_45 (by decide) (by decide) (by rfl) (by decide) (k_16 hl C Z hj hL I hk hn back)
  | 17, _ => exact v_tableIn C 1148 dL_law_45 (by decide) (by decide) (by rfl) (by decide) (k_17 hl C Z hj hL I hk hn back)
  | 18, _ => exact v_tableIn C 1204 dL_law_45 (by decide) (by decide) (by rfl) (by decide) (k_18 hl C Z hj hL I hk hn back)
  | 19, _ => exact v_tableIn C 1248 dL_law_45 (by decide) (by decide) (by rfl) (by decide) (k_19 hl C Z hj hL I hk hn back)
  | 20, _ => exact v_tableIn C 1316 dL_law_45 (by decide) (by decide) (by rfl) (by decide) (k_20 hl C Z hj hL I hk hn back)
  | 21, _ => exact v_tableIn C 1360 dL_law_45 (by decide) (by decide) (by rfl) (by decide) (k_21 hl C Z hj hL I hk hn back)
  | 22, _ => exact v_tableIn C 1404 dL_law_45 (by decide) (by decide) (by rfl) (by decide) (k_22 hl C Z hj hL I hk hn back)
  | 23, _ => exact v_tableIn C 1472 dL_law_45 (by decide) (by decide) (by rfl) (by decide) (k_23 hl C Z hj hL I hk hn back)
  | 24, _ => exact v_tableIn C 1516 dL_law_45 (by decide) (by decide) (by rfl) (by decide) (k_24 hl C Z hj hL I hk hn back)
  | 25, _ => exact v_tableIn C 1560 dL_law_45 (by decide) (by decide) (by rfl) (by decide) (k_25 hl C Z hj hL I hk hn back)
  | 26, _ => exact v_tableIn C 1604 dL_law_45 (by decide) (by decide) (by rfl) (by decide) (k_26 hl C Z hj hL I hk hn back)
  | 27, _ => exact v_tableIn C 1648 dL_law_45 (by decide) (by decide) (by rfl) (by decide) (k_27 hl C Z hj hL I hk hn back)
  | 28, _ => exact v_tableIn C 1716 dL_law_45 (by decide) (by decide) (by rfl) (by decide) (k_28 hl C Z hj hL I hk hn back)
  | 29, _ => exact v_tableIn C 1784 dL_law_45 (by decide) (by decide) (by rfl) (by decide) (k_29 hl C Z hj hL I hk hn back)
  | 30, _ => exact v_tableIn C 1871 dL_law_45 (by decide) (by decide) (by rfl) (by decide) (k_30 hl C Z hj hL I hk hn back)
  | 31, _ => exact v_tableIn C 1914 dL_law_45 (by decide) (by decide) (by rfl) (by decide) (k_31 hl C Z hj hL I hk hn back)
  | 32, _ => exact v_tableIn C 1994 dL_law_45 (by decide) (by decide) (by rfl) (by decide) (k_32 hl C Z hj hL I hk hn back)
  | 33, _ => exact v_tableIn C 2074 dL_law_45 (by decide) (by decide) (by rfl) (by decide) (k_33 hl C Z hj hL I hk hn back)
  | 34, _ => exact v_tableIn C 2154 dL_law_45 (by decide) (by decide) (by rfl) (by decide) (k_34 hl C Z hj hL I hk hn back)
  | 35, _ => exact v_tableIn C 2234 dL_law_45 (by decide) (by decide) (by rfl) (by decide) (k_35 hl C Z hj hL I hk hn back)
  | 36, _ => exact v_tableIn C 2290 dL_law_45 (by decide) (by decide) (by rfl) (by decide) (k_36 hl C Z hj hL I hk hn back)
  | 37, _ => exact v_tableIn C 2358 dL_law_45 (by decide) (by decide) (by rfl) (by decide) (k_37 hl C Z hj hL I hk hn back)
  | 38, _ => exact v_tableIn C 2402 dL_law_45 (by decide) (by decide) (by rfl) (by decide) (k_38 hl C Z hj hL I hk hn back)
  | 39, _ => exact v_tableIn C 2458 dL_law_45 (by decide) (by decide) (by rfl) (by decide) (k_39 hl C Z hj hL I hk hn back)
  | 40, _ => exact v_tableIn C 2514 dL_law_45 (by decide) (by decide) (by rfl) (by decide) (k_40 hl C Z hj hL I hk hn back)
  | 41, _ => exact v_tableIn C 2558 dL_law_45 (by decide) (by decide) (by rfl) (by decide) (k_41 hl C Z hj hL I hk hn back)
  | 42, _ => exact v_tableIn C 2614 dL_law_45 (by decide) (by decide) (by rfl) (by decide) (k_42 hl C Z hj hL I hk hn back)
  | 43, _ => exact v_tableIn C 2679 dL_law_45 (by decide) (by decide) (by rfl) (by decide) (k_43 hl C Z hj hL I hk hn back)
  | 44, _ => exact v_tableIn C 2745 dL_law_45 (by decide) (by decide) (by rfl) (by decide) (k_44 hl C Z hj hL I hk hn back)
  | 45, _ => exact v_tableIn C 2758 dL_law_45 (by decide) (by decide) (by rfl) (by decide) (k_45 hl C Z hj hL I hk hn back)
  | 46, _ => exact v_tableIn C 2826 dL_law_45 (by decide) (by decide) (by rfl) (by decide) (k_46 hl C Z hj hL I hk hn back)
  | 47, _ => exact v_tableIn C 2870 dL_law_45 (by decide) (by decide) (by rfl) (by decide) (k_47 hl C Z hj hL I hk hn back)
  | 48, _ => exact v_tableIn C 2926 dL_law_45 (by decide) (by decide) (by rfl) (by decide) (k_48 hl C Z hj hL I hk hn back)
  | 49, _ => exact v_tableIn C 2982 dL_law_45 (by decide) (by decide) (by rfl) (by decide) (k_49 hl C Z hj hL I hk hn back)
  | 50, _ => exact v_tableIn C 3062 dL_law_45 (by decide) (by decide) (by rfl) (by decide) (k_50 hl C Z hj hL I hk hn back)
  | 51, _ => exact v_tableIn C 3130 dL_law_45 (by decide) (by decide) (by rfl) (by decide) (k_51 hl C Z hj hL I hk hn back)
  | 52, _ => exact v_tableIn C 3210 dL_law_45 (by decide) (by decide) (by rfl) (by decide) (k_52 hl C Z hj hL I hk hn back)
  | 53, _ => exact v_tableIn C 3278 dL_law_45 (by decide) (by decide) (by rfl) (by decide) (k_53 hl C Z hj hL I hk hn back)
  | 54, _ => exact v_tableIn C 3358 dL_law_45 (by decide) (by decide) (by rfl) (by decide) (k_54 hl C Z hj hL I hk hn back)
  | 55, _ => exact v_tableIn C 3414 dL_law_45 (by decide) (by decide) (by rfl) (by decide) (k_55 hl C Z hj hL I hk hn back)
  | 56, _ => exact v_tableIn C 3470 dL_law_45 (by decide) (by decide) (by rfl) (by decide) (k_56 hl C Z hj hL I hk hn back)
  | 57, _ => exact v_tableIn C 3538 dL_law_45 (by decide) (by decide) (by rfl) (by decide) (k_57 hl C Z hj hL I hk hn back)
  | 58, _ => exact v_tableIn C 3594 dL_law_45 (by decide) (by decide) (by rfl) (by decide) (k_58 hl C Z hj hL I hk hn back)
  | 59, _ => exact v_tableIn C 3678 dL_law_45 (by decide) (by decide) (by rfl) (by decide) (k_59 hl C Z hj hL I hk hn back)
  | 60, _ => exact v_tableIn C 3746 dL_law_45 (by decide) (by decide) (by rfl) (by decide) (k_60 hl C Z hj hL I hk hn back)
  | 61, _ => exact v_tableIn C 3790 dL_law_45 (by decide) (by decide) (by rfl) (by decide) (k_61 hl C Z hj hL I hk hn back)
  | 62, _ => exact v_tableIn C 3803 dL_law_45 (by decide) (by decide) (by rfl) (by decide) (k_62 hl C Z hj hL I hk hn back)
  | 63, _ => exact v_tableIn C 3859 dL_law_45 (by decide) (by decide) (by rfl) (by decide) (k_63 hl C Z hj hL I hk hn back)
  | u + 64, hu => exact absurd hu (by omega)
set_option maxHeartbeats 2000000 in
theorem law_loop {X : Cx} {kc ks : Nat} (hl : (xl X).stackTraces = false) (C : Ok SS MM X RL cL_law 9 30 kc ks) {b L : Nat} {w : Nat → Int32} (Z : Lok X b L w) (F : FinL X b) {h : Nat → Nat} (hL : L ≤ 3072) {k0 n0 : Nat} (hk : k0 + 3072 ≤ kc) (hn : n0 + 18432 ≤ ks) (hk2 : k0 + 3072 ≤ 601024) (hn2 : n0 + 18432 ≤ 7293034) : ∀ (t j : Nat) (c : Cg) (o : Nat → Int64) (dd : Nat → UInt64) (q : G), 6 * j ≤ L → L < 6 * j + t → INV (20 + j) c q → V X (lS (xK X) h) 28 [some (.ref b), some (.ref (h 0)), some (.ref (sh 126 h 0)), some (.ref (h 124)), some (.ref (h 125)), some (.int (nI (6 * j))), none, none, none] [] (c, o, dd, q) (k0 + 6 * j) (n0 + 36 * j) := by
  intro t
  induction t with
  | zero => intro j c o dd q h1 h2; omega
  | succ t ih =>
    intro j c o dd q h1 h2 I
    refine v_iload C dL_law_28 rfl ?_
    refine v_aload_n C dL_law_30 rfl ?_
    refine v_slen C Z dL_law_31 ?_
    refine v_bipush C dL_law_32 (v := nI 6) (by decide) ?_
    refine v_isub C dL_law_34 ?_
    have e1 : (nI L - nI 6).toInt = (L : Int) - 6 := nI_sub_toInt (by omega) (by omega)
    have e2 : (nI (6 * j)).toInt = ((6 * j : Nat) : Int) := nI_toInt (by omega)
    refine v_icmp_gt C 3921 dL_law_35 (by decide) (fun z => ?_) (fun z => ?_)
    · refine v_iconst C dL_law_3921 (v := 1) (by decide) ?_
      exact v_lawret C F dL_law_3922 (by omega) (by omega)
    · rw [e1, e2] at z
      have hj : 6 * j + 6 ≤ L := by omega
      refine v_aload_n C dL_law_38 rfl ?_
      refine v_iload C dL_law_39 rfl ?_
      refine v_sld C Z (6 * j) rfl (by omega) hL dL_law_41 ?_
      refine v_bipush C dL_law_42 (v := 63) (by decide) ?_
      refine v_iand C dL_law_44 ?_
      obtain ⟨u, hu, eu⟩ := and63 (w (6 * j))
      rw [eu]
      refine law_case hl C Z hj hL I (by omega) (by omega) (fun c2 o2 d2 q2 I2 => ?_) u hu
      refine v_iinc C dL_law_3915 (v := nI (6 * (j + 1))) rfl (by rw [show Int32.ofInt 6 = nI 6 from rfl, nI_add]; rfl) rfl rfl ?_
      refine v_goto C 28 dL_law_3918 (by decide) ?_
      exact V.widen (by omega) (by omega) (ih (j + 1) c2 o2 d2 q2 (by omega) (by omega) I2)
theorem law_init {X : Cx} (hl : (xl X).stackTraces = false) (C : Ok SS MM X RL cL_law 9 30 601024 7293034) (hO : EN (xs X)) {b L : Nat} {w : Nat → Int32} (Z : Lok X b L w) (F : FinL X b) (hL : L ≤ 3072) : V X iW 0 [some (.ref b), none, none, none, none, none, none, none, none] [] [] 0 0 := by
  refine v_new C nw_L_8 dL_law_0 (Nat.le_of_ble_eq_true rfl) (Nat.le_of_ble_eq_true rfl) (fun q1 => ?_)
  refine v_dup C dL_law_3 rfl ?_
  refine v_callL C hO (c_X5_init hl q1) yi_X5 ml_L_196 rfl dL_law_4 (by decide) (Nat.le_of_ble_eq_true rfl) (Nat.le_of_ble_eq_true rfl) (Nat.le_of_ble_eq_true rfl) (fun h1 hb1 => ?_)
  subst hb1
  refine v_astore_n C dL_law_7 rfl (Nat.le_of_ble_eq_true rfl) rfl ?_
  refine v_new C nw_L_197 dL_law_8 (Nat.le_of_ble_eq_true rfl) (Nat.le_of_ble_eq_true rfl) (fun q2 => ?_)
  refine v_dup C dL_law_11 rfl ?_
  refine v_callL C hO (c_X6_init hl q2) yi_X6 ml_L_199 rfl dL_law_12 (by decide) (Nat.le_of_ble_eq_true rfl) (Nat.le_of_ble_eq_true rfl) (Nat.le_of_ble_eq_true rfl) (fun h2 hb2 => ?_)
  subst hb2
  refine v_astore_n C dL_law_15 rfl (Nat.le_of_ble_eq_true rfl) rfl ?_
  refine v_iconst C dL_law_16 (v := nI 1) (by decide) ?_
  refine v_newJ C 1 rfl (by decide) dL_law_17 (Nat.le_of_ble_eq_true rfl) (Nat.le_of_ble_eq_true rfl) (fun a1 => ?_)
  refine v_astore_n C dL_law_19 rfl (Nat.le_of_ble_eq_true rfl) rfl ?_
  refine v_iconst C dL_law_20 (v := nI 1) (by decide) ?_
  refine v_newD C 1 rfl (by decide) dL_law_21 (Nat.le_of_ble_eq_true rfl) (Nat.le_of_ble_eq_true rfl) (fun a2 => ?_)
  refine v_astore C dL_law_23 rfl (Nat.le_of_ble_eq_true rfl) rfl ?_
  refine v_iconst C dL_law_25 (v := nI 0) (by decide) ?_
  refine v_istore C dL_law_26 rfl (Nat.le_of_ble_eq_true rfl) rfl ?_
  have e1 : cS (xK X) (cat 124 h1 (cat 2 (hlst [a1, a2]) h2)) c0 = cS (xK X) h1 c0 := cS_cg (fun i hi => if_pos hi)
  have e2 : qS (xK X) (sh 126 (cat 124 h1 (cat 2 (hlst [a1, a2]) h2))) q0g = qS (xK X) h2 q0g := by simp only [sh_cat, Nat.reduceLeDiff, Nat.reduceSub, sh_zero]
  have e3 : lS (xK X) (cat 124 h1 (cat 2 (hlst [a1, a2]) h2)) (c0, (fun _ => 0), (fun _ => 0), q0g) = cS (xK X) h1 c0 ++ [cJ (xK X) a1 1 (fun _ => 0), cD (xK X) a2 1 (fun _ => 0)] ++ qS (xK X) h2 q0g := by
    rw [← e1, ← e2]
    rfl
  refine V.perm (ws' := lS (xK X) (cat 124 h1 (cat 2 (hlst [a1, a2]) h2)) (c0, (fun _ => 0), (fun _ => 0), q0g)) (by rw [e3]; exact pL) ?_
  have hloop := law_loop hl C Z F (h := cat 124 h1 (cat 2 (hlst [a1, a2]) h2)) hL (k0 := 200) (n0 := 25000) (Nat.le_of_ble_eq_true rfl) (Nat.le_of_ble_eq_true rfl) (Nat.le_of_ble_eq_true rfl) (Nat.le_of_ble_eq_true rfl) (L + 1) 0 c0 (fun _ => 0) (fun _ => 0) q0g (by omega) (by omega) INV0
  exact V.widen (Nat.le_of_ble_eq_true rfl) (Nat.le_of_ble_eq_true rfl) hloop
theorem W_room {p : Program} {l : Launch} {e : Env} {R R2 : Room} {s : State} {m : MethodId} {args : Array Value} {below : List Frame} {meth : Method} {c : Code} {H : Heap} {locs : List Loc} {cells slots : Nat} {Q : State → Prop} {g : JFrame} (hR : R2.frames ≤ R.frames ∧ R2.cells ≤ R.cells ∧ R2.slots ≤ R.slots ∧ R2.locals ≤ R.locals) (k : W p l e R2 s m args below meth c H locs cells slots Q g) : W p l e R s m args below meth c H locs cells slots Q g := by
  intro T hT X
  have hr : s.hasRoom e.platform R2 = true := by
    have h := X.room
    simp only [State.hasRoom, Bool.and_eq_true, decide_eq_true_eq] at h ⊢
    obtain ⟨⟨⟨⟨h1, h2⟩, h3⟩, h4⟩, h5⟩ := h
    refine ⟨⟨⟨⟨by omega, ?_⟩, by omega⟩, by omega⟩, h5⟩
    obtain ⟨a1, a2, a3, a4, a5⟩ := h2
    exact ⟨by omega, by omega, by omega, by omega, a5⟩
  exact k T hT ⟨X.admits, X.cas, X.clock, X.frames, hr, X.hears, X.method, X.code, X.here, X.tail, X.warmed, X.limits, X.bytes, X.same⟩
set_option maxHeartbeats 2000000 in
theorem whole_start {p : Program} {e : Env} {s : State} {m : MethodId} {below : List Frame} {meth : Method} {c : Code} (l : Launch) (hflags : l.flags = flags0) {b L : Nat} {xs : Nat → Int32} (hL : L ≤ 3072) (C0 : lw_At p s m meth c b L xs) : W p l e room_1 s m #[Value.ref b] below meth c s.heap [] 0 0 (lw_Z below #[Value.ref b] s) (entryFrame m ([Value.ref b] : List Value).toArray 9) := by
  obtain ⟨hx, hb, hr, hml, hown, hts, hX, hbl, hlocks, hgv⟩ := C0
  have hst : l.stackTraces = false := by
    unfold Launch.stackTraces
    rw [hflags]
    decide +kernel
  obtain ⟨κ, hK, hE, hN⟩ := start_K hts hgv
  refine W_room (R2 := rmL 30 601024 7293034) ⟨by decide, Nat.le_refl _, Nat.le_refl _, by decide⟩ ?_
  have C : Ok SS MM (p, l, e, rmL 30 601024 7293034, s, m, #[Value.ref b], below, meth, c, lw_Z below #[Value.ref b] s, (fun q : Nat => s.heap.size ≤ q), κ) RL cL_law 9 30 601024 7293034 :=
    ⟨hx, hb, hml, hown, fun w hw => hts w (List.mem_filter.mp hw).1, hK, fun q h => h, hlocks, hst, rfl, hE⟩
  have X1 := law_init hst C hN (b := b) (L := L) (w := xs) ⟨hX, hbl, Nat.not_le.mpr hbl⟩ ⟨rfl, rfl, hr, fun q h => h⟩ hL
  have hll := lg_len [Value.ref b] (by simp [Value.category])
  have hl0 := lv_entry [Value.ref b] (n := 9) (by rw [hll]; exact Nat.le_of_ble_eq_true rfl)
  rw [lg_entry_eq]
  refine X1 s.heap [] _ (fun k q h => by simp at h) ⟨fun i j p q h => by simp at h, fun k q h => by simp at h⟩ va_S.rf ?_
  exact hl0.mono (fun q hq => lq_args [Value.ref b] 0 (by simp [Value.category]) 8 q hq)
