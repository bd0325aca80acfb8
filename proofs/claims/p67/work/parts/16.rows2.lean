/-! worlds whose cells are alike hold in the same heaps -/
theorem arr_congr {c : ClassId} {N : Nat} {f g : Nat → Value} (h : ∀ k, k < N → f k = g k) : arrV c N f = arrV c N g := by
  unfold arrV
  have e : (fun j : Fin N => f j.val) = (fun j : Fin N => g j.val) := funext fun j => h j.1 j.2
  rw [e]
def SameW (ws ws' : va_W) : Prop := ∀ (D : va_G) (cl : List vw_C) (H : Heap), va_P D cl ws H → va_P D cl ws' H
theorem SameW.rfl {ws : va_W} : SameW ws ws := fun _ _ _ h => h
theorem SameW.cons {q q' : Nat × va_E} {ws ws' : va_W} (h1 : ∀ (D : va_G) (cl : List vw_C) (H : Heap), va_at D cl q H → va_at D cl q' H) (h2 : SameW ws ws') : SameW (q :: ws) (q' :: ws') := by
  intro D cl H h k p hp
  cases k with
  | zero =>
    have : q' = p := by simpa using hp
    subst this
    exact h1 D cl H (h 0 q (by simp))
  | succ k => exact h2 D cl H (fun i r hr => h (i + 1) r (by simpa using hr)) k p (by simpa using hp)
theorem SameW.app {a a' b b' : va_W} (h1 : SameW a a') (h2 : SameW b b') : SameW (a ++ b) (a' ++ b') := by
  intro D cl H h
  have ha : va_P D cl a H := fun k q hq => h k q (by rw [List.getElem?_append_left (List.getElem?_eq_some_iff.mp hq).1]; exact hq)
  have hb : va_P D cl b H := fun k q hq => h (a.length + k) q (by rw [List.getElem?_append_right (by omega), show a.length + k - a.length = k by omega]; exact hq)
  exact (h1 D cl H ha).app (h2 D cl H hb)
theorem same_I {c : ClassId} {a n : Nat} {f g : Nat → Int32} (h : ∀ k, k < n → f k = g k) : ∀ (D : va_G) (cl : List vw_C) (H : Heap), va_at D cl (a, .inl (c, n, .inl f)) H → va_at D cl (a, .inl (c, n, .inl g)) H := by
  intro D cl H h1
  have h1 : H[a]? = some (arrV c n (fun j => .int (f j))) := h1
  show H[a]? = some (arrV c n (fun j => .int (g j)))
  rw [h1, arr_congr (g := fun j => .int (g j)) (fun k hk => by rw [h k hk])]
theorem V.same {X : Cx} {σ : Type} {Wd : σ → va_W} {pc : Nat} {lo : List (Option Value)} {st : List Value} {g g2 : σ} {k n : Nat} (hf : FixW Wd) (hs : SameW (Wd g) (Wd g2)) (h : V X Wd pc lo st g2 k n) : V X Wd pc lo st g k n :=
  fun H locs ls hP hD hS hl => h H locs ls (hs _ _ _ hP) (hD.fix (hf _ _)) hS hl
/-- two memories with the same cells -/
def EqM (m m2 : Mg) : Prop := m 0 7 = m2 0 7 ∧ m 0 8 = m2 0 8 ∧ (∀ p, p < 96 → m 1 p = m2 1 p ∧ m 2 p = m2 2 p ∧ m 3 p = m2 3 p ∧ m 4 p = m2 4 p) ∧ (∀ p, p < 5 → m 5 p = m2 5 p) ∧ (∀ p, p < 9 → m 6 p = m2 6 p) ∧ ∀ p, p < 240 → m 7 p = m2 7 p
theorem same_mS {κ : Kp} {h : Nat → Nat} {m m2 : Mg} (e : EqM m m2) : SameW (mS κ h m) (mS κ h m2) := by
  obtain ⟨e1, e2, e3, e5, e6, e7⟩ := e
  unfold mS
  rw [e1, e2]
  exact .cons (fun _ _ _ x => x) (.cons (same_I fun k hk => (e3 k hk).1) (.cons (same_I fun k hk => (e3 k hk).2.1) (.cons (same_I fun k hk => (e3 k hk).2.2.1) (.cons (same_I fun k hk => (e3 k hk).2.2.2) (.cons (same_I e5) (.cons (same_I e6) (.cons (same_I e7) .rfl)))))))
section VO
variable {S : List SQ} {Ms : List MQ3} {X : Cx} {own : String} {cc : ByteArray} {nL d kc ks : Nat} {σ : Type} {Wd : σ → va_W} {pc : Nat} {lo : List (Option Value)} {st : List Value} {g : σ} {k n : Nat}
/-- a static method of another class -/
theorem v_callOv {y : MethodName} {bytes : ByteArray} {maxL : Nat} {ret : Option FieldType} {d2 mc ms : Nat} {σ2 : Type} {Wd2 : σ2 → va_W} {g2 : σ2} {px : String → σ2 → Prop} {rd : σ → σ2} {wr : σ → σ2 → σ} {is : List Nat} {rest : List Value}
    (C : Ok S Ms X own cc nL d kc ks) {post : Unit → σ2 → Prop} {As : List Value} {idx : Nat}
    (M : Ct S Ms (xl X) (xK X) y bytes maxL ret d2 mc ms As Wd2 g2 rv post px) (Y : Ys y bytes maxL ret As.length) (lk : Cond.methodLink own idx y ∈ TT) (E : Emb Wd Wd2 rd wr is) (hg2 : rd g = g2)
    (hlo : lo.length = nL) (hst : st = As.reverse ++ rest) (hdg : decode cc pc = .ok (.invokestatic idx, 3)) (hd : d2 < d) (hk : k + mc ≤ kc) (hn : n + ms ≤ ks) (hW : (rest.map fun v => v.category).sum ≤ 8)
    (kx : ∀ e u, px e u → VX X Wd pc lo e rest (wr g u) (k + mc) (n + ms)) (kk : ∀ r u, post r u → V X Wd (pc + 3) lo rest (wr g u) (k + mc) (n + ms)) : V X Wd pc lo st g k n := by
  subst hg2
  refine v_call0 (post := post) (res := rv) C E (a := As.toArray) (fun H locs ls hP hD hS hl => ?_) kx kk
  have hT : GoodIn TT (va_wsS own idx y (wT y bytes maxL ret)) := TT_in _ (fun w hw => by
    rcases List.mem_append.mp hw with h | h
    · simp only [List.mem_cons, List.not_mem_nil, or_false] at h
      rcases h with rfl | rfl | rfl
      · exact lk
      · exact Y.1.1
      · exact Y.1.2.1
    · exact wT_in Y.1.2.2 w h)
  have cw := va_cwS (R := xR X) (rm := rmL d2 mc ms) (mc := mc) (ms := ms) (bytes := bytes) (maxL := maxL) (ret := ret) (ws := wT y bytes maxL ret) As.length C.2.2.2.2.1 hT rfl rfl rfl ⟨Y.2.1, Y.2.2.1, Y.2.2.2.1⟩ (by rw [C.2.2.2.2.2.2.2.2.2.1]; exact rm_fits hd Y.2.2.2.2)
  refine vx_runS (nL := nL) (Ts := TT) (As := As) ⟨C.1, C.2.1, C.2.2.1, C.2.2.2.1, C.2.2.2.2.1⟩ (M H.size) cw ⟨PreB.blind, fun U hU hW => ⟨rfl, v_pre C E hP hD hS hU hW⟩⟩ rfl rfl (by rw [← hlo]; exact hl.1) hst (by simpa using hW) hdg ?_
  rw [C.2.2.2.2.2.2.2.2.2.1]
  exact ⟨hk, hn⟩
/-- f where k is less than n, else g -/
def mix (n : Nat) (f g : Nat → Int32) : Nat → Int32 := fun k => if k < n then f k else g k
theorem mix_cpy {n : Nat} {f g : Nat → Int32} : va_cpy f g 0 0 n = mix n f g := by
  funext k
  unfold va_cpy mix
  by_cases h : k < n
  · rw [if_pos (by omega), if_pos h, show 0 + (k - 0) = k by omega]
  · rw [if_neg (by omega), if_neg h]
theorem v_copyi (C : Ok S Ms X own cc nL d kc ks) {idx cs as ns cd ad nd : Nat} {gs gd : σ → Nat → Int32} {ss sd : σ → (Nat → Int32) → σ} (lk : Cond.methodLink own idx arraycopyName ∈ TT) (w1 : Cond.native arraycopyName ∈ TT) (w2 : Cond.static arraycopyName ∈ TT) (w3 : Cond.initialized "java/lang/System" ∈ TT) (Q0 : AI (xK X) Wd cs as ns gs ss) (Q1 : AI (xK X) Wd cd ad nd gd sd) (N : Nat) (h1 : N ≤ ns) (h2 : N ≤ nd) (h3 : N < 2 ^ 31)
    (hlo : lo.length = nL) (hW : (st.map fun v => v.category).sum ≤ 8) (hdg : decode cc pc = .ok (.invokestatic idx, 3)) (kk : V X Wd (pc + 3) lo st (sd g (mix N (gs g) (gd g))) k n) : V X Wd pc lo (.int (nI N) :: .int (nI 0) :: .ref ad :: .int (nI 0) :: .ref as :: st) g k n := by
  intro H locs ls hP hD hS hl
  have e0 : (nI 0).toNatClampNeg = 0 := nI_clamp (by omega)
  have eN : (nI N).toNatClampNeg = N := nI_clamp h3
  have z0 : ¬ nI 0 < 0 := by decide
  have zN : ¬ nI N < 0 := fun z => by
    have z1 := Int32.lt_iff_toInt_lt.mp z
    rw [nI_toInt h3] at z1
    simp at z1
    omega
  have hfw : nativeFrameWords "java/lang/System" "arraycopy" 5 ≤ 200 := by decide +kernel
  refine va_copyi C.1 C.2.1 (by rw [C.2.2.1, ← hlo]; exact hl.1.symm) C.2.2.2.1 (C.2.2.2.2.1 _ lk) (C.2.2.2.2.1 _ w1) (C.2.2.2.2.1 _ w2) (C.2.2.2.2.1 _ w3) C.2.2.2.2.2.1 hP hD hS cs cd 0 0 (Q0 g).1 (Q1 g).1 rfl rfl rfl z0 z0 zN (by rw [e0, eN]; omega) (by rw [e0, eN]; omega) (fun _ _ => rfl) ?_ ?_ hdg (fun H1 locs1 hP1 hD1 hS1 => ?_)
  · rw [C.2.2.2.2.2.2.2.2.2.1]
    show 1 ≤ 10 + d
    omega
  · rw [C.2.2.2.2.2.2.2.2.2.1]
    show _ ≤ 300 + 100 * d
    omega
  · rw [e0, eN, mix_cpy, (Q1 g).2] at hP1 hD1
    exact kk H1 locs1 ls hP1 hD1 hS1 hl
theorem v_mmax (C : Ok S Ms X own cc nL d kc ks) {idx : Nat} {x y z : Int32} (lk : Cond.methodLink own idx Lib.Math.max.name ∈ TT) (w1 : Cond.static Lib.Math.max.name ∈ TT) (w2 : Cond.initialized "java/lang/Math" ∈ TT) (w3 : Cond.code Lib.Math.max.name Lib.Math.max.code 2 (some .int) ∈ TT)
    (hlo : lo.length = nL) (hW : (st.map fun v => v.category).sum ≤ 8) (hdg : decode cc pc = .ok (.invokestatic idx, 3)) (hk : k ≤ kc) (hn : n ≤ ks) (hz : (if x < y then y else x) = z) (kk : V X Wd (pc + 3) lo (.int z :: st) g k n) : V X Wd pc lo (.int y :: .int x :: st) g k n := by
  intro H locs ls hP hD hS hl
  subst hz
  refine va_mmax C.1 C.2.1 (by rw [C.2.2.1, ← hlo]; exact hl.1.symm) C.2.2.2.1 (C.2.2.2.2.1 _ lk) (C.2.2.2.2.1 _ w1) (C.2.2.2.2.1 _ w2) (C.2.2.2.2.1 _ w3) ?_ ?_ ?_ ?_ hdg (kk H locs ls hP hD hS hl)
  · rw [C.2.2.2.2.2.2.2.2.2.1]
    show 1 ≤ 10 + d
    omega
  · rw [C.2.2.2.2.2.2.2.2.2.1]
    show _ ≤ 300 + 100 * d
    omega
  · rw [C.2.2.2.2.2.2.2.2.2.1]; exact hk
  · rw [C.2.2.2.2.2.2.2.2.2.1]; exact hn
theorem v_mmin (C : Ok S Ms X own cc nL d kc ks) {idx : Nat} {x y z : Int32} (lk : Cond.methodLink own idx Lib.Math.min.name ∈ TT) (w1 : Cond.static Lib.Math.min.name ∈ TT) (w2 : Cond.initialized "java/lang/Math" ∈ TT) (w3 : Cond.code Lib.Math.min.name Lib.Math.min.code 2 (some .int) ∈ TT)
    (hlo : lo.length = nL) (hW : (st.map fun v => v.category).sum ≤ 8) (hdg : decode cc pc = .ok (.invokestatic idx, 3)) (hk : k ≤ kc) (hn : n ≤ ks) (hz : (if y < x then y else x) = z) (kk : V X Wd (pc + 3) lo (.int z :: st) g k n) : V X Wd pc lo (.int y :: .int x :: st) g k n := by
  intro H locs ls hP hD hS hl
  subst hz
  refine va_mmin C.1 C.2.1 (by rw [C.2.2.1, ← hlo]; exact hl.1.symm) C.2.2.2.1 (C.2.2.2.2.1 _ lk) (C.2.2.2.2.1 _ w1) (C.2.2.2.2.1 _ w2) (C.2.2.2.2.1 _ w3) ?_ ?_ ?_ ?_ hdg (kk H locs ls hP hD hS hl)
  · rw [C.2.2.2.2.2.2.2.2.2.1]
    show 1 ≤ 10 + d
    omega
  · rw [C.2.2.2.2.2.2.2.2.2.1]
    show _ ≤ 300 + 100 * d
    omega
  · rw [C.2.2.2.2.2.2.2.2.2.1]; exact hk
  · rw [C.2.2.2.2.2.2.2.2.2.1]; exact hn
end VO
theorem w_acN : Cond.native arraycopyName ∈ TT := TT_t 347 (by decide +kernel) (by decide +kernel)
theorem w_acS : Cond.static arraycopyName ∈ TT := TT_t 346 (by decide +kernel) (by decide +kernel)
theorem w_acI : Cond.initialized "java/lang/System" ∈ TT := TT_t 10 (by decide +kernel) (by decide +kernel)
theorem w_mI : Cond.initialized "java/lang/Math" ∈ TT := TT_t 8 (by decide +kernel) (by decide +kernel)
theorem w_maxS : Cond.static Lib.Math.max.name ∈ TT := TT_t 326 (by decide +kernel) (by decide +kernel)
theorem w_maxC : Cond.code Lib.Math.max.name Lib.Math.max.code 2 (some .int) ∈ TT := TT_t 327 (by decide +kernel) (by decide +kernel)
theorem w_minS : Cond.static Lib.Math.min.name ∈ TT := TT_t 343 (by decide +kernel) (by decide +kernel)
theorem w_minC : Cond.code Lib.Math.min.name Lib.Math.min.code 2 (some .int) ∈ TT := TT_t 344 (by decide +kernel) (by decide +kernel)
section VQ
variable {S : List SQ} {Ms : List MQ3} {X : Cx} {own : String} {cc : ByteArray} {nL d kc ks : Nat} {σ : Type} {Wd : σ → va_W} {pc : Nat} {lo : List (Option Value)} {st : List Value} {g : σ} {k n : Nat}
/-- as the rows without Q, the value in other words -/
theorem v_getiQ (C : Ok S Ms X own cc nL d kc ks) {idx ci f c a : Nat} {get : σ → Int32} {set : σ → Int32 → σ} {x : Int32} (L : FL own idx ci f) (O : OI Wd c a ci f get set) (hx : get g = x) (hdg : decode cc pc = .ok (.getfield idx, 3)) (kk : V X Wd (pc + 3) lo (.int x :: st) g k n) : V X Wd pc lo (.ref a :: st) g k n := by
  subst hx; exact v_geti C L O hdg kk
theorem v_ialdQ (C : Ok S Ms X own cc nL d kc ks) {c a N : Nat} {get : σ → Nat → Int32} {set : σ → (Nat → Int32) → σ} (Q : AI (xK X) Wd c a N get set) (hN : N < 2 ^ 31) {i x : Int32} (j : Nat) (hx : get g j = x) (hj : j < N) (hi : i = nI j) (hdg : decode cc pc = .ok (.iaload, 1)) (kk : V X Wd (pc + 1) lo (.int x :: st) g k n) : V X Wd pc lo (.int i :: .ref a :: st) g k n := by
  subst hx; exact v_iald C Q hN j hj hi hdg kk
theorem v_zaldQ (C : Ok S Ms X own cc nL d kc ks) {c a N : Nat} {get : σ → Nat → Int32} {set : σ → (Nat → Int32) → σ} (Q : AZ (xK X) Wd c a N get set) (hN : N < 2 ^ 31) {i x : Int32} (j : Nat) (hx : get g j = x) (hj : j < N) (hi : i = nI j) (hdg : decode cc pc = .ok (.baload, 1)) (kk : V X Wd (pc + 1) lo (.int x :: st) g k n) : V X Wd pc lo (.int i :: .ref a :: st) g k n := by
  subst hx; exact v_zald C Q hN j hj hi hdg kk
/-- the state in other words -/
theorem V.stt {g2 : σ} (e : g = g2) (h : V X Wd pc lo st g2 k n) : V X Wd pc lo st g k n := by rw [e]; exact h
end VQ
