/-! ROWS FOR THE BYTES OF A STRINGBUILDER -/
theorem ml_cloneB : Cond.methodLink RJ7 310 ⟨"[B", "clone", "()Ljava/lang/Object;"⟩ ∈ TT := TT_t 335 (by decide +kernel) (by decide +kernel)
section VSB
variable {S : List SQ} {Ms : List MQ3} {X : Cx} {own : String} {cc : ByteArray} {nL d kc ks : Nat} {K : va_W → va_W} {pc : Nat} {lo : List (Option Value)} {st : List Value} {k n : Nat} {ws ws2 : va_W}
theorem nI_nn {m : Nat} (h : m < 2 ^ 31) : ¬ nI m < 0 := fun z => by
  have z1 := Int32.lt_iff_toInt_lt.mp z
  rw [nI_toInt h] at z1
  simp at z1
  omega
/-- System.arraycopy between two byte arrays -/
theorem v_copyB (C : Ok S Ms X own cc nL d kc ks) (hK : Cxt K) {idx a0 a n0 n1 : Nat} {f g : Nat → Int32} {sp dp nn : Int32} (q0 q1 s0 d0 N : Nat) (lk : Cond.methodLink own idx arraycopyName ∈ TT) (h0 : ws[q0]? = some (cB (xK X) a0 n0 f)) (h1 : ws[q1]? = some (cB (xK X) a n1 g)) (hs : sp = nI s0) (hd : dp = nI d0) (hn : nn = nI N) (b0 : s0 + N ≤ n0) (b1 : d0 + N ≤ n1) (b2 : n0 < 2 ^ 31) (b3 : n1 < 2 ^ 31) (hfit : ∀ i, i < N → fits .byte (.int (f (s0 + i))) = true)
    (hlo : lo.length = nL) (hW : (st.map fun v => v.category).sum ≤ 8) (h2 : ws.set q1 (cB (xK X) a n1 (va_cpy f g s0 d0 N)) = ws2) (hdg : decode cc pc = .ok (.invokestatic idx, 3)) (kk : V X iW (pc + 3) lo st (K ws2) k n) : V X iW pc lo (.int nn :: .int dp :: .ref a :: .int sp :: .ref a0 :: st) (K ws) k n := by
  intro H locs ls hP hD hS hl
  obtain ⟨R, hR⟩ := hK
  subst hs hd hn
  have es : (nI s0).toNatClampNeg = s0 := nI_clamp (by omega)
  have ed : (nI d0).toNatClampNeg = d0 := nI_clamp (by omega)
  have eN : (nI N).toNatClampNeg = N := nI_clamp (by omega)
  have hfw : nativeFrameWords "java/lang/System" "arraycopy" 5 ≤ 200 := by decide +kernel
  refine va_copyi C.1 C.2.1 (by rw [C.2.2.1, ← hlo]; exact hl.1.symm) C.2.2.2.1 (C.2.2.2.2.1 _ lk) (C.2.2.2.2.1 _ w_acN) (C.2.2.2.2.1 _ w_acS) (C.2.2.2.2.1 _ w_acI) C.2.2.2.2.2.1 (va_P.perm hP (hR ws)) (va_D.perm hD (hR ws)) hS q0 q1 2 2 (app_at h0) (app_at h1) rfl rfl rfl (nI_nn (by omega)) (nI_nn (by omega)) (nI_nn (by omega)) (by rw [es, eN]; exact b0) (by rw [ed, eN]; exact b1) (fun i hi => by rw [es]; rw [eN] at hi; exact hfit i hi) ?_ ?_ hdg (fun H1 locs1 hP1 hD1 hS1 => ?_)
  · rw [C.2.2.2.2.2.2.2.2.2.1]
    show 1 ≤ 10 + d
    omega
  · rw [C.2.2.2.2.2.2.2.2.2.1]
    show _ ≤ 300 + 100 * d
    omega
  · rw [es, ed, eN, app_set h1, h2] at hP1 hD1
    exact kk H1 locs1 ls (va_P.perm hP1 (hR ws2).symm) (va_D.perm hD1 (hR ws2).symm) hS1 hl
/-- .. out of a String constant's bytes -/
theorem v_copyT (C : Ok S Ms X own cc nL d kc ks) (hK : Cxt K) {i : Nat} {q : SQ} (hq : S[i]? = some q) {idx a n1 : Nat} {g : Nat → Int32} {sp dp nn : Int32} (q1 s0 d0 N : Nat) (lk : Cond.methodLink own idx arraycopyName ∈ TT) (h1 : ws[q1]? = some (cB (xK X) a n1 g)) (hs : sp = nI s0) (hd : dp = nI d0) (hn : nn = nI N) (b0 : s0 + N ≤ q.2.2.2.length) (b1 : d0 + N ≤ n1) (b2 : q.2.2.2.length < 2 ^ 31) (b3 : n1 < 2 ^ 31) (hfit : ∀ j, j < N → fits .byte (.int (nI (q.2.2.2.getD (s0 + j) 0))) = true)
    (hlo : lo.length = nL) (hW : (st.map fun v => v.category).sum ≤ 8) (h2 : ws.set q1 (cB (xK X) a n1 (va_cpy (fun j => nI (q.2.2.2.getD j 0)) g s0 d0 N)) = ws2) (hdg : decode cc pc = .ok (.invokestatic idx, 3)) (kk : V X iW (pc + 3) lo st (K ws2) k n) : V X iW pc lo (.int nn :: .int dp :: .ref a :: .int sp :: .ref ((xK X).2.2.2 i) :: st) (K ws) k n := by
  intro H locs ls hP hD hS hl
  obtain ⟨R, hR⟩ := hK
  subst hs hd hn
  have es : (nI s0).toNatClampNeg = s0 := nI_clamp (by omega)
  have ed : (nI d0).toNatClampNeg = d0 := nI_clamp (by omega)
  have eN : (nI N).toNatClampNeg = N := nI_clamp (by omega)
  have hfw : nativeFrameWords "java/lang/System" "arraycopy" 5 ≤ 200 := by decide +kernel
  have hX := (C.2.2.2.2.2.2.2.2.2.2.2.2.2.2.2.1 i q hq).2.2.2.2
  refine vk_copyt (f := fun j => nI (q.2.2.2.getD j 0)) C.1 C.2.1 (by rw [C.2.2.1, ← hlo]; exact hl.1.symm) C.2.2.2.1 (C.2.2.2.2.1 _ lk) (C.2.2.2.2.1 _ w_acN) (C.2.2.2.2.1 _ w_acS) (C.2.2.2.2.1 _ w_acI) C.2.2.2.2.2.1 (va_P.perm hP (hR ws)) (va_D.perm hD (hR ws)) hS hX q1 2 (app_at h1) rfl (nI_nn (by omega)) (nI_nn (by omega)) (nI_nn (by omega)) (by rw [es, eN]; exact b0) (by rw [ed, eN]; exact b1) (fun j hj => by rw [es]; rw [eN] at hj; exact hfit j hj) ?_ ?_ hdg (fun H1 locs1 hP1 hD1 hS1 => ?_)
  · rw [C.2.2.2.2.2.2.2.2.2.1]
    show 1 ≤ 10 + d
    omega
  · rw [C.2.2.2.2.2.2.2.2.2.1]
    show _ ≤ 300 + 100 * d
    omega
  · rw [es, ed, eN, app_set h1, h2] at hP1 hD1
    exact kk H1 locs1 ls (va_P.perm hP1 (hR ws2).symm) (va_D.perm hD1 (hR ws2).symm) hS1 hl
/-- clone() of a byte array, and the cast behind it -/
theorem v_cloneB (C : Ok S Ms X own cc nL d kc ks) (hK : Cxt K) {a N : Nat} {f : Nat → Int32} (c : Nat) (hown : own = RJ7) (he : ws[c]? = some (cB (xK X) a N f)) (hfit : ∀ i, i < N → fits .byte (.int (f i)) = true) (hlo : lo.length = nL) (hW : (st.map fun v => v.category).sum ≤ 8) (hdg : decode cc pc = .ok (.invokevirtual 310, 3)) (hdg2 : decode cc (pc + 3) = .ok (.checkcast 311, 3)) (hk : k + 1 ≤ kc) (hn : n + N ≤ ks) (kk : ∀ q, V X iW (pc + 6) lo (.ref q :: st) (K (cB (xK X) q N f :: ws)) (k + 1) (n + N)) : V X iW pc lo (.ref a :: st) (K ws) k n := by
  intro H locs ls hP hD hS hl
  obtain ⟨R, hR⟩ := hK
  subst hown
  have hRA := va_nm_byte (C.2.2.2.2.2.1.2 2 ((xK X).2.1 2, .byte) rfl).2
  have hTD := C.2.2.2.2.2.2.2.2.2.2.2.2.1
  refine va_clone C.1 C.2.1 (by rw [C.2.2.1, ← hlo]; exact hl.1.symm) C.2.2.2.1 (C.2.2.2.2.1 _ ml_cloneB) (C.2.2.2.2.1 _ (TT_t 336 (by decide +kernel) (by decide +kernel))) (C.2.2.2.2.1 _ (TT_t 337 (by decide +kernel) (by decide +kernel))) (C.2.2.2.2.1 _ (TT_t 338 (by decide +kernel) (by decide +kernel))) (C.2.2.2.2.1 _ (TT_t 339 (by decide +kernel) (by decide +kernel))) (hTD _ (TD_t 340 (by decide +kernel) rfl)) C.2.2.2.2.2.1 (va_P.perm hP (hR ws)) (va_D.perm hD (hR ws)) hS C.2.2.2.2.2.2.1 c 2 (app_at he) rfl hRA (fun i v hv => ?_) ?_ ?_ ?_ ?_ hdg (fun q H1 _ hP1 hD1 hS1 => ?_)
  · have hv2 : (arrV ((xK X).2.1 2) N (fun j => .int (f j))).slots[i]? = some v := hv
    have hlt : i < N := by
      have := (Array.getElem?_eq_some_iff.mp hv2).1
      rw [arrV_size] at this
      exact this
    rw [arrV_read _ _ hlt] at hv2
    cases hv2
    exact hfit i hlt
  · rw [C.2.2.2.2.2.2.2.2.2.1]
    show 1 ≤ 10 + d
    omega
  · rw [C.2.2.2.2.2.2.2.2.2.1]
    show _ ≤ 300 + 100 * d
    omega
  · rw [C.2.2.2.2.2.2.2.2.2.1]; exact hk
  · rw [C.2.2.2.2.2.2.2.2.2.1]; exact hn
  · have hp : ((ws ++ R) ++ [cB (xK X) q N f]).Perm ((cB (xK X) q N f :: ws) ++ R) := by
      refine (List.perm_append_comm).trans ?_
      exact List.Perm.refl _
    have hP2 := va_P.perm hP1 hp
    have hD2 := va_D.perm hD1 hp
    exact va_castA C.1 C.2.1 C.2.2.2.1 (C.2.2.2.2.1 _ (TT_t 341 (by decide +kernel) (by decide +kernel))) hP2 0 rfl hRA hdg2 (kk q H1 locs ls (va_P.perm hP2 (hR _).symm) (va_D.perm hD2 (hR _).symm) hS1 hl)
/-- new int[N][] -/
theorem v_newE (C : Ok S Ms X own cc nL d kc ks) (N : Nat) {i : Int32} {idx : Nat} (hi : i = nI N) (hN : N ≤ 10000) (hl : Cond.classLink own idx "[I" ∈ TT) (hdg : decode cc pc = .ok (.anewarray idx, 3)) (hk : k + 1 ≤ kc) (hn : n + N ≤ ks) (kk : ∀ q, V X iW (pc + 3) lo (.ref q :: st) (cE (xK X) q N (fun _ => none) :: ws) (k + 1) (n + N)) : V X iW pc lo (.int i :: st) ws k n := by
  intro H locs ls hP hD hS hlv
  subst hi
  have hR := C.2.2.2.2.2.2.2.2.2.1
  have hcl : (nI N).toNatClampNeg = N := nI_clamp (by omega)
  refine W.anewA (t := .int) C.1 C.2.1 C.2.2.2.1 (C.2.2.2.2.1 _ hl) (show (Cond.arrayOver (.array .int)).before (xa X) (xs X) = true from (okDG C).2.2.2.2.2.1) rfl hdg rfl (nI_nneg (by omega)) (by rw [hcl]; omega) (by rw [hR]; exact hk) (by rw [hR, hcl]; exact hn) (fun cA kA comp f1 f2 f3 f4 => ?_)
  have e : cA = (xK X).2.1 5 := Option.some.inj (f1.symm.trans (C.2.2.2.2.2.1.2 5 ((xK X).2.1 5, .array .int) rfl).2)
  subst e
  rw [hcl]
  generalize hH1 : H.push ({ cls := (xK X).2.1 5, slots := Array.replicate N .null, vm := .none } : Cell) = H1
  have z1 : H1.size = H.size + 1 := by rw [← hH1, Array.size_push]
  have e1 : H1[H.size]? = some (arrV ((xK X).2.1 5) N (fun _ => .null)) := by rw [← hH1, Array.getElem?_push_size, ← arrV_new]
  have o1 : ∀ q : Nat, q < H.size → H1[q]? = H[q]? := fun q hq => by rw [← hH1, Array.getElem?_push, if_neg (Nat.ne_of_lt hq)]
  have hkp : ∀ (k : Nat) (x : Nat × va_E), ws[k]? = some x → H1[x.1]? = H[x.1]? := fun k x hx => o1 x.1 ((hP k x hx).lt)
  have hP1 : va_P (xK X).1 vwCl (ws ++ [cE (xK X) H.size N (fun _ => none)]) H1 := (hP.kept hkp).app (fun k x hx => by
    have hz : k < 1 := (List.getElem?_eq_some_iff.mp hx).1
    rw [show k = 0 by omega] at hx
    cases hx
    show H1[H.size]? = some (vp_cell _ _)
    rw [vp_cell_q]
    exact e1)
  have hD1 : va_D (xA X) (ws ++ [cE (xK X) H.size N (fun _ => none)]) := hD.push hP rfl (C.2.2.2.2.2.2.1 _ hS.1)
  have hS1 : va_S (xA X) (xs X).heap H1 locs := ⟨Nat.le_trans hS.1 (by omega), fun x h1 h2 => (o1 x (Nat.lt_of_lt_of_le h1 hS.1)).trans (hS.2.1 x h1 h2), hS.2.2⟩
  exact kk H.size H1 locs ls (va_P.perm hP1 (List.perm_append_singleton _ _)) (va_D.perm hD1 (List.perm_append_singleton _ _)) hS1 hlv
/-- new Place[N] -/
theorem v_newP (C : Ok S Ms X own cc nL d kc ks) (N : Nat) {i : Int32} {idx : Nat} (hi : i = nI N) (hN : N ≤ 10000) (hl : Cond.classLink own idx "CopyDebtsLaw$Place" ∈ TT) (hdg : decode cc pc = .ok (.anewarray idx, 3)) (hk : k + 1 ≤ kc) (hn : n + N ≤ ks) (kk : ∀ q, V X iW (pc + 3) lo (.ref q :: st) (cP (xK X) q N (fun _ => none) :: ws) (k + 1) (n + N)) : V X iW pc lo (.int i :: st) ws k n := by
  intro H locs ls hP hD hS hlv
  subst hi
  have hR := C.2.2.2.2.2.2.2.2.2.1
  refine va_newq C.1 C.2.1 C.2.2.2.1 (C.2.2.2.2.1 _ hl) (okDG C).2.2.2.2.1 C.2.2.2.2.2.1 hP hD hS C.2.2.2.2.2.2.1 (nI_nneg (by omega)) (nI_clamp (by omega)) (by omega) (by rw [hR]; exact hk) (by rw [hR]; exact hn) hdg (fun q cA H1 hK1 hP1 hD1 hS1 => ?_)
  have e : cA = (xK X).2.1 3 := by
    obtain ⟨_, _, _, _, _, h1⟩ := (hK1.2 (tysOf (xK X)).length (cA, .object "CopyDebtsLaw$Place") (by rw [List.getElem?_append_right (Nat.le_refl _), Nat.sub_self]; rfl)).2
    obtain ⟨_, _, _, _, _, h2⟩ := (C.2.2.2.2.2.1.2 3 ((xK X).2.1 3, .object "CopyDebtsLaw$Place") rfl).2
    exact Option.some.inj (h1.symm.trans h2)
  subst e
  exact kk q H1 locs ls (va_P.perm hP1 (List.perm_append_singleton _ _)) (va_D.perm hD1 (List.perm_append_singleton _ _)) hS1 hlv
variable {wsC : va_W} {ρ : Type} {res : ρ → Option Value} {post : ρ → va_W → Prop} {px : String → va_W → Prop} {y : MethodName} {bytes : ByteArray} {maxL : Nat} {ret : Option FieldType} {d2 mc ms : Nat} {rest : List Value}
/-- a method of String on a constant, over a world -/
theorem v_gC (C : Ok S Ms X own cc nL d kc ks) (hK : Cxt K) {i : Nat} {q : SQ} (hq : S[i]? = some q) {As : List Value} {idx : Nat}
    (M : CtG S Ms (xl X) (xK X) y bytes maxL ret d2 mc ms (.ref ((xK X).2.2.1 i) :: As) wsC res post px) (Y : Ym "java/lang/String" y bytes maxL ret As.length) (lk : Cond.methodLink own idx y ∈ TT)
    (hlo : lo.length = nL) (hst : st = As.reverse ++ .ref ((xK X).2.2.1 i) :: rest) (hdg : decode cc pc = .ok (.invokevirtual idx, 3)) (hd : d2 < d) (hk : k + mc ≤ kc) (hn : n + ms ≤ ks) (hW : (rest.map fun v => v.category).sum ≤ 8)
    (kx : ∀ e u, px e u → VX X iW pc lo e rest (K u) (k + mc) (n + ms)) (kk : ∀ r u, post r u → V X iW (pc + 3) lo ((res r).toList ++ rest) (K u) (k + mc) (n + ms)) : V X iW pc lo st (K wsC) k n := by
  refine v_gK hK (fun R kx kk => v_g0 C (a := (Value.ref ((xK X).2.2.1 i) :: As).toArray) (fun H locs ls hP hD hS hl => ?_) kx kk) kx kk
  have hT : GoodIn TT (wsV own idx "java/lang/String" y (wT y bytes maxL ret)) := TT_in _ (fun w hw => by
    rcases List.mem_append.mp hw with h | h
    · simp only [List.mem_cons, List.not_mem_nil, or_false] at h
      rcases h with rfl | rfl | rfl | rfl
      · exact lk
      · exact Y.1.1
      · exact Y.1.2.1
      · exact Y.1.2.2.1
    · exact wT_in Y.1.2.2.2 w h)
  have hRm := C.2.2.2.2.2.2.2.2.2.1
  have cw := cwV (R := xR X) (rm := rmL d2 mc ms) (mc := mc) (ms := ms) (bytes := bytes) (maxL := maxL) (ret := ret) (ws := wT y bytes maxL ret) As.length C.2.2.2.2.1 hT rfl rfl rfl ⟨Y.2.1, Y.2.2.1, Y.2.2.2.1, Y.2.2.2.2.1⟩ (by rw [hRm]; exact rm_fits hd Y.2.2.2.2.2)
  have hrec : ∃ cell : Cell, H[(xK X).2.2.1 i]? = some cell ∧ cell.vm.isStatics = false ∧ (xs X).vm.findClass "java/lang/String" = some cell.cls := by
    obtain ⟨cell, h1, h2, h3, -⟩ := (C.2.2.2.2.2.2.2.2.2.2.2.2.2.2.2.1 i q hq).2.1.kept hS.2.1
    exact ⟨cell, h1, h2, h3⟩
  refine vx_runV (nL := nL) (Ts := TT) (b := (xK X).2.2.1 i) (As := As) ⟨C.1, C.2.1, C.2.2.1, C.2.2.2.1, C.2.2.2.2.1⟩ (M H.size) cw ⟨PreB.blind, hrec, fun U hU hW => ⟨rfl, gr_pre C hP hD hS hU hW⟩⟩ rfl rfl (by rw [← hlo]; exact hl.1) hst (by simpa using hW) hdg ?_
  rw [hRm]
  exact ⟨hk, hn⟩
end VSB
/-! TEXTS: a StringBuilder holds the letters of a list, and noughts behind them -/
def tf (T : List Nat) : Nat → Int32 := fun j => nI (T.getD j 0)
def Lat (T : List Nat) : Prop := ∀ b ∈ T, b < 128
theorem Lat.app {T U : List Nat} (h : Lat T) (h2 : Lat U) : Lat (T ++ U) := fun b hb => by rcases List.mem_append.mp hb with x | x; exact h b x; exact h2 b x
theorem Lat.get {T : List Nat} (h : Lat T) (j : Nat) : T.getD j 0 < 128 := by
  rw [List.getD_eq_getElem?_getD]
  cases e : T[j]? with
  | none => exact (by decide)
  | some b => exact h b (List.mem_of_getElem? e)
theorem fit_b : ∀ b, b < 128 → fits .byte (.int (nI b)) = true := by decide +kernel
theorem Lat.fit {T : List Nat} (h : Lat T) (j : Nat) : fits .byte (.int (tf T j)) = true := fit_b _ (h.get j)
/-- a StringBuilder at a, its bytes at v -/
def sbC (κ : Kp) (a v N : Nat) (T : List Nat) (len : Nat) : va_W := [(a, .inr (10, [.ref v, .int (nI 0), .int 0, .int (nI len)])), cB κ v N (tf T)]
abbrev sbW (κ : Kp) (a v N : Nat) (T : List Nat) : va_W := sbC κ a v N T T.length
/-- what holds of it always: room for its letters, never more than twice a thousand -/
def SbOK (N : Nat) (T : List Nat) : Prop := T.length ≤ N ∧ N ≤ 1000 ∧ Lat T
theorem tf_cpy (T U : List Nat) : va_cpy (tf U) (tf T) 0 T.length U.length = tf (T ++ U) := by
  funext j
  unfold va_cpy tf
  by_cases h : T.length ≤ j ∧ j < T.length + U.length
  · rw [if_pos h, List.getD_eq_getElem?_getD, List.getD_eq_getElem?_getD, List.getElem?_append_right h.1, show 0 + (j - T.length) = j - T.length by omega]
  · rw [if_neg h, List.getD_eq_getElem?_getD, List.getD_eq_getElem?_getD]
    by_cases h2 : j < T.length
    · rw [List.getElem?_append_left h2]
    · rw [List.getElem?_eq_none (by omega), List.getElem?_eq_none (by rw [List.length_append]; omega)]
theorem tf_cpy0 (T : List Nat) {N : Nat} (h : T.length ≤ N) : va_cpy (tf T) (fun _ => 0) 0 0 N = tf T := by
  funext j
  unfold va_cpy tf
  by_cases h2 : 0 ≤ j ∧ j < 0 + N
  · rw [if_pos h2, show 0 + (j - 0) = j by omega]
  · rw [if_neg h2, List.getD_eq_getElem?_getD, List.getElem?_eq_none (by omega)]
    rfl
theorem tf_cpyL (T : List Nat) : va_cpy (tf T) (fun _ => 0) 0 0 T.length = tf T := tf_cpy0 T (Nat.le_refl _)
theorem tf_one (T : List Nat) (c : Nat) : upd (tf T) T.length (nI c) = tf (T ++ [c]) := by
  funext j
  unfold upd tf
  rw [List.getD_eq_getElem?_getD, List.getD_eq_getElem?_getD]
  by_cases h : j = T.length
  · subst h
    simp
  · rw [if_neg h]
    by_cases h2 : j < T.length
    · rw [List.getElem?_append_left h2]
    · rw [List.getElem?_eq_none (by omega), List.getElem?_eq_none (by rw [List.length_append, List.length_singleton]; omega)]
theorem shl_0 (x : Int32) : x <<< (nI 0 &&& 31) = x := by
  have e : nI 0 &&& 31 = 0 := by decide
  rw [e]
  simp
theorem ch_i2b : ∀ b, b < 128 → (nI b).toInt8.toInt32 = nI b := by decide +kernel
theorem ch_nb : ∀ b, b < 128 → vp_nar .byte (nI b) = nI b := by decide +kernel
theorem nI_prd (m : Nat) : nI (m + 1) + Int32.ofInt (-1) = nI m := by
  have e : Int32.ofInt (-1) = -nI 1 := by decide
  rw [e, ← Int32.sub_eq_add_neg, nI_sub (by omega), Nat.add_sub_cancel]
theorem nI_neg {x : Nat} (h : x < 2 ^ 30) : (-nI x).toInt = -(x : Int) := by
  have e : -nI x = nI 0 - nI x := by
    show -nI x = 0 - nI x
    rw [Int32.zero_sub]
  rw [e, nI_sub_toInt (by omega) h]
  omega
/-- the digits of a number below 1000 -/
def dig (x : Nat) : Nat := if x < 10 then 1 else if x < 100 then 2 else 3
def digs (x : Nat) : List Nat := if x < 10 then [48 + x % 10] else if x < 100 then [48 + x / 10, 48 + x % 10] else [48 + x / 100 % 10, 48 + x % 100 / 10, 48 + x % 100 % 10]
theorem digs_len (x : Nat) : (digs x).length = dig x := by
  unfold digs dig
  split
  · rfl
  · split <;> rfl
theorem digs_lat {x : Nat} (h : x < 1000) : Lat (digs x) := by
  intro b hb
  unfold digs at hb
  split at hb
  · simp only [List.mem_cons, List.not_mem_nil, or_false] at hb
    omega
  · split at hb <;> simp only [List.mem_cons, List.not_mem_nil, or_false] at hb <;> omega
theorem dig_le (x : Nat) : 1 ≤ dig x ∧ dig x ≤ 3 := by
  unfold dig
  split
  · omega
  · split <;> omega
theorem gc_div : ∀ x, x < 1000 → -nI x / nI 100 = -nI (x / 100) := by decide +kernel
theorem gc_mod : ∀ x, x < 1000 → -nI (x / 100) * nI 100 - -nI x = nI (x % 100) := by decide +kernel
theorem gc_neg : ∀ x, x < 1000 → - -nI x = nI x := by decide +kernel
theorem tf_two (T : List Nat) (b c : Nat) : upd (upd (tf T) (T.length + 1) (nI c)) T.length (nI b) = tf (T ++ [b, c]) := by
  funext j
  have e1 := congrFun (tf_one (T ++ [b]) c) j
  have e2 := congrFun (tf_one T b) j
  rw [List.length_append, List.length_singleton, List.append_assoc] at e1
  show _ = tf (T ++ ([b] ++ [c])) j
  rw [← e1]
  unfold upd at e2 ⊢
  by_cases h1 : j = T.length
  · rw [if_pos h1, if_neg (by omega), ← e2, if_pos h1]
  · rw [if_neg h1, ← e2, if_neg h1]
theorem tf_three (T : List Nat) (a b c : Nat) : upd (upd (upd (tf T) (T.length + 2) (nI c)) (T.length + 1) (nI b)) T.length (nI a) = tf (T ++ [a, b, c]) := by
  funext j
  have e1 := congrFun (tf_one (T ++ [a, b]) c) j
  have e2 := congrFun (tf_two T a b) j
  rw [List.length_append, List.append_assoc] at e1
  show _ = tf (T ++ ([a, b] ++ [c])) j
  rw [← e1]
  show _ = upd (tf (T ++ [a, b])) (T.length + 2) (nI c) j
  unfold upd at e2 ⊢
  by_cases h1 : j = T.length
  · rw [if_pos h1, if_neg (by omega), ← e2, if_pos h1]
  · by_cases h2 : j = T.length + 1
    · rw [if_neg h1, if_pos h2, if_neg (by omega), ← e2, if_neg h1, if_pos h2]
    · rw [if_neg h1, if_neg h2, ← e2, if_neg h1, if_neg h2]
theorem mx_n {a b : Nat} (ha : a < 2 ^ 31) (hb : b < 2 ^ 31) : (if nI a < nI b then nI b else nI a) = nI (if a < b then b else a) := by
  by_cases h : a < b
  · rw [if_pos h, if_pos (by rw [Int32.lt_iff_toInt_lt, nI_toInt ha, nI_toInt hb]; omega)]
  · rw [if_neg h, if_neg (by rw [Int32.lt_iff_toInt_lt, nI_toInt ha, nI_toInt hb]; omega)]
theorem mn_n {a b : Nat} (ha : a < 2 ^ 31) (hb : b < 2 ^ 31) : (if nI b < nI a then nI b else nI a) = nI (if b < a then b else a) := by
  by_cases h : b < a
  · rw [if_pos h, if_pos (by rw [Int32.lt_iff_toInt_lt, nI_toInt ha, nI_toInt hb]; omega)]
  · rw [if_neg h, if_neg (by rw [Int32.lt_iff_toInt_lt, nI_toInt ha, nI_toInt hb]; omega)]
/-- how much room is made -/
def capN (q N : Nat) : Nat := if q - N < N + 2 then N + (N + 2) else N + (q - N)
theorem capN_le {q N : Nat} (h : N < q) : q ≤ capN q N ∧ N < capN q N ∧ capN q N ≤ 2 * q := by
  unfold capN
  split <;> omega
