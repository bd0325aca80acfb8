/-! String constants: their lengths and signs -/
theorem SS_ok {i : Nat} {q : SQ} (h : SS[i]? = some q) : q.2.2.2.length ≤ 8 ∧ ∀ b ∈ q.2.2.2, b < 128 := by
  have h0 : SS.all (fun q => decide (q.2.2.2.length ≤ 8) && q.2.2.2.all (fun b => decide (b < 128))) = true := by decide +kernel
  have h1 := List.all_eq_true.mp h0 q (List.mem_of_getElem? h)
  rw [Bool.and_eq_true, decide_eq_true_eq, List.all_eq_true] at h1
  exact ⟨h1.1, fun b hb => by simpa using h1.2 b hb⟩
theorem ch_and : ∀ b, b < 128 → nI b &&& nI 255 = nI b := by decide +kernel
theorem ch_i2c : ∀ b, b < 128 → ((nI b).toUInt32 % 65536).toInt32 = nI b := by decide +kernel
theorem ch_nar : ∀ b, b < 128 → narrow .char (.int (nI b)) = .int (nI b) := by decide +kernel
theorem shr_0 (x : Int32) : x >>> (nI 0 &&& 31) = x := by
  have e : nI 0 &&& 31 = 0 := by decide
  rw [e]
  simp
section VS
variable {Ms : List MQ3} {X : Cx} {own : String} {cc : ByteArray} {nL d kc ks : Nat} {σ : Type} {Wd : σ → va_W} {pc : Nat} {lo : List (Option Value)} {st : List Value} {g : σ} {k n : Nat}
theorem v_ldcS {S : List SQ} (C : Ok S Ms X own cc nL d kc ks) {i : Nat} {q : SQ} (hq : S[i]? = some q) (ho : q.1 = own) (hdg : decode cc pc = .ok (.ldc q.2.1, 2)) (kk : V X Wd (pc + 2) lo (.ref ((xK X).2.2.1 i) :: st) g k n) : V X Wd pc lo st g k n := by
  intro H locs ls hP hD hS hl
  have h1 := (C.2.2.2.2.2.2.2.2.2.2.2.2.2.2.2.1 i q hq).1
  rw [ho] at h1
  exact va_ldcS C.1 C.2.1 C.2.2.2.1 h1 hdg (kk H locs ls hP hD hS hl)
theorem v_ldc2 {S : List SQ} (C : Ok S Ms X own cc nL d kc ks) {idx : Nat} {v : Int64} (lk : Cond.constantLong own idx v ∈ TT) (hdg : decode cc pc = .ok (.ldc2_w idx, 3)) (kk : V X Wd (pc + 3) lo (.long v :: st) g k n) : V X Wd pc lo st g k n :=
  fun H locs ls hP hD hS hl => lv_ldc2 C.1 C.2.1 C.2.2.2.1 (C.2.2.2.2.1 _ lk) hdg (kk H locs ls hP hD hS hl)
theorem v_i2c {S : List SQ} (C : Ok S Ms X own cc nL d kc ks) {x v : Int32} (hdg : decode cc pc = .ok (.i2c, 1)) (hv : (x.toUInt32 % 65536).toInt32 = v) (kk : V X Wd (pc + 1) lo (.int v :: st) g k n) : V X Wd pc lo (.int x :: st) g k n :=
  fun H locs ls hP hD hS hl => lv_i2c C.1 C.2.1 hdg hv (kk H locs ls hP hD hS hl)
theorem v_getsC {S : List SQ} (C : Ok S Ms X own cc nL d kc ks) {idx : Nat} (lk : Cond.fieldLink own idx "java/lang/String" "COMPACT_STRINGS" "Z" ∈ TT) (hdg : decode cc pc = .ok (.getstatic idx, 3)) (kk : V X Wd (pc + 3) lo (.int (nI 1) :: st) g k n) : V X Wd pc lo st g k n :=
  fun H locs ls hP hD hS hl => va_gets C.1 C.2.1 C.2.2.2.2.2.2.2.2.2.2.2.2.2.2.2.2.1 hS C.2.2.2.1 (C.2.2.2.2.1 _ lk) (fun _ h => h) hdg (kk H locs ls hP hD hS hl)
theorem v_getsQ {S : List SQ} (C : Ok S Ms X own cc nL d kc ks) {idx : Nat} (lk : Cond.fieldLink own idx "jdk/internal/util/Preconditions" "SIOOBE_FORMATTER" "Ljava/util/function/BiFunction;" ∈ TT) (hdg : decode cc pc = .ok (.getstatic idx, 3)) (kk : ∀ v : Value, v.category = 1 → V X Wd (pc + 3) lo (v :: st) g k n) : V X Wd pc lo st g k n := by
  intro H locs ls hP hD hS hl
  rcases C.2.2.2.2.2.2.2.2.2.2.2.2.2.2.2.2.2.1 with h | ⟨t, h⟩
  · exact va_gets C.1 C.2.1 h hS C.2.2.2.1 (C.2.2.2.2.1 _ lk) (fun _ h => h) hdg (kk _ rfl H locs ls hP hD hS hl)
  · exact va_gets C.1 C.2.1 h hS C.2.2.2.1 (C.2.2.2.2.1 _ lk) (fun _ h => h) hdg (kk _ rfl H locs ls hP hD hS hl)
theorem v_getSC {S : List SQ} (C : Ok S Ms X own cc nL d kc ks) {i idx : Nat} {q : SQ} (hq : S[i]? = some q) (lk : Cond.fieldLink own idx "java/lang/String" "coder" "B" ∈ TT) (hdg : decode cc pc = .ok (.getfield idx, 3)) (kk : V X Wd (pc + 3) lo (.int (nI 0) :: st) g k n) : V X Wd pc lo (.ref ((xK X).2.2.1 i) :: st) g k n := by
  intro H locs ls hP hD hS hl
  obtain ⟨cf, kf, fi, f, cell, h1, h2, h3, h4, h5, h6⟩ := (C.2.2.2.2.2.2.2.2.2.2.2.2.2.2.2.1 i q hq).2.2.1.kept hS.2.1
  exact W.getf C.1 C.2.1 C.2.2.2.1 (C.2.2.2.2.1 _ lk) h1 h2 h3 h4 (v := .int (nI 0)) h5 rfl rfl hdg (kk H locs ls hP hD hS hl)
theorem v_getSV {S : List SQ} (C : Ok S Ms X own cc nL d kc ks) {i idx : Nat} {q : SQ} (hq : S[i]? = some q) (lk : Cond.fieldLink own idx "java/lang/String" "value" "[B" ∈ TT) (hdg : decode cc pc = .ok (.getfield idx, 3)) (kk : V X Wd (pc + 3) lo (.ref ((xK X).2.2.2 i) :: st) g k n) : V X Wd pc lo (.ref ((xK X).2.2.1 i) :: st) g k n := by
  intro H locs ls hP hD hS hl
  obtain ⟨cf, kf, fi, f, cell, h1, h2, h3, h4, h5, h6⟩ := (C.2.2.2.2.2.2.2.2.2.2.2.2.2.2.2.1 i q hq).2.2.2.1.kept hS.2.1
  exact W.getf C.1 C.2.1 C.2.2.2.1 (C.2.2.2.2.1 _ lk) h1 h2 h3 h4 (v := .ref ((xK X).2.2.2 i)) h5 rfl rfl hdg (kk H locs ls hP hD hS hl)
theorem v_tlen {S : List SQ} (C : Ok S Ms X own cc nL d kc ks) {i : Nat} {q : SQ} (hq : S[i]? = some q) (hdg : decode cc pc = .ok (.arraylength, 1)) (kk : V X Wd (pc + 1) lo (.int (nI q.2.2.2.length) :: st) g k n) : V X Wd pc lo (.ref ((xK X).2.2.2 i) :: st) g k n :=
  fun H locs ls hP hD hS hl => va_tlen C.1 C.2.1 (C.2.2.2.2.2.2.2.2.2.2.2.2.2.2.2.1 i q hq).2.2.2.2 hS rfl hdg (kk H locs ls hP hD hS hl)
theorem v_tb {S : List SQ} (C : Ok S Ms X own cc nL d kc ks) {i j : Nat} {q : SQ} (hq : S[i]? = some q) (hj : j < q.2.2.2.length) (h31 : q.2.2.2.length < 2 ^ 31) (hdg : decode cc pc = .ok (.baload, 1)) (kk : V X Wd (pc + 1) lo (.int (nI (q.2.2.2.getD j 0)) :: st) g k n) : V X Wd pc lo (.int (nI j) :: .ref ((xK X).2.2.2 i) :: st) g k n :=
  fun H locs ls hP hD hS hl => va_tb C.1 C.2.1 (C.2.2.2.2.2.2.2.2.2.2.2.2.2.2.2.1 i q hq).2.2.2.2 hS (vp_in_nI hj h31) (v := .int (nI (q.2.2.2.getD j 0))) (by rw [nI_clamp (by omega)]) hdg (kk H locs ls hP hD hS hl)
variable {y : MethodName} {bytes : ByteArray} {maxL : Nat} {ret : Option FieldType} {d2 mc ms : Nat} {σ2 : Type} {Wd2 : σ2 → va_W} {g2 : σ2} {px : String → σ2 → Prop} {rd : σ → σ2} {wr : σ → σ2 → σ} {is : List Nat} {rest : List Value}
/-- a static method of another class that gives an int -/
theorem v_callOi {S : List SQ} (C : Ok S Ms X own cc nL d kc ks) {post : Int32 → σ2 → Prop} {As : List Value} {idx : Nat}
    (M : Ct S Ms (xl X) (xK X) y bytes maxL ret d2 mc ms As Wd2 g2 ri post px) (Y : Ys y bytes maxL ret As.length) (lk : Cond.methodLink own idx y ∈ TT) (E : Emb Wd Wd2 rd wr is) (hg2 : rd g = g2)
    (hlo : lo.length = nL) (hst : st = As.reverse ++ rest) (hdg : decode cc pc = .ok (.invokestatic idx, 3)) (hd : d2 < d) (hk : k + mc ≤ kc) (hn : n + ms ≤ ks) (hW : (rest.map fun v => v.category).sum ≤ 8)
    (kx : ∀ e u, px e u → VX X Wd pc lo e rest (wr g u) (k + mc) (n + ms)) (kk : ∀ r u, post r u → V X Wd (pc + 3) lo (.int r :: rest) (wr g u) (k + mc) (n + ms)) : V X Wd pc lo st g k n := by
  subst hg2
  refine v_call0 (post := post) (res := ri) C E (a := As.toArray) (fun H locs ls hP hD hS hl => ?_) kx kk
  have hT : GoodIn TT (va_wsS own idx y (wT y bytes maxL ret)) := TT_in _ (fun w hw => by
    rcases List.mem_append.mp hw with h | h
    · simp only [List.mem_cons, List.not_mem_nil, or_false] at h
      rcases h with rfl | rfl | rfl
      · exact lk
      · exact Y.1.1
      · exact Y.1.2.1
    · exact wT_in Y.1.2.2 w h)
  have cw := va_cwS (R := xR X) (rm := rmL d2 mc ms) (mc := mc) (ms := ms) (bytes := bytes) (maxL := maxL) (ret := ret) (ws := wT y bytes maxL ret) As.length C.2.2.2.2.1 hT rfl rfl rfl ⟨Y.2.1, Y.2.2.1, Y.2.2.2.1⟩ (by rw [C.2.2.2.2.2.2.2.2.2.1]; exact rm_fits hd Y.2.2.2.2)
  refine vx_runS (nL := nL) (Ts := TT) (As := As) ⟨C.1, C.2.1, C.2.2.1, C.2.2.2.1, C.2.2.2.2.1⟩ (M H.size) cw ⟨PreB.blind, fun U hU hW => ⟨rfl, v_pre C E hP hD hS hU hW⟩⟩ rfl rfl (by rw [← hlo]; exact hl.1) hst (by simpa using hW) hdg ?_
  rw [C.2.2.2.2.2.2.2.2.2.1]
  exact ⟨hk, hn⟩
/-- a method of String on a constant -/
theorem v_callKi {S : List SQ} (C : Ok S Ms X own cc nL d kc ks) {i : Nat} {q : SQ} (hq : S[i]? = some q) {post : Int32 → σ2 → Prop} {As : List Value} {idx : Nat}
    (M : Ct S Ms (xl X) (xK X) y bytes maxL ret d2 mc ms (.ref ((xK X).2.2.1 i) :: As) Wd2 g2 ri post px) (Y : Ym "java/lang/String" y bytes maxL ret As.length) (lk : Cond.methodLink own idx y ∈ TT) (E : Emb Wd Wd2 rd wr is) (hg2 : rd g = g2)
    (hlo : lo.length = nL) (hst : st = As.reverse ++ .ref ((xK X).2.2.1 i) :: rest) (hdg : decode cc pc = .ok (.invokevirtual idx, 3)) (hd : d2 < d) (hk : k + mc ≤ kc) (hn : n + ms ≤ ks) (hW : (rest.map fun v => v.category).sum ≤ 8)
    (kx : ∀ e u, px e u → VX X Wd pc lo e rest (wr g u) (k + mc) (n + ms)) (kk : ∀ r u, post r u → V X Wd (pc + 3) lo (.int r :: rest) (wr g u) (k + mc) (n + ms)) : V X Wd pc lo st g k n := by
  subst hg2
  refine v_call0 (post := post) (res := ri) C E (a := (Value.ref ((xK X).2.2.1 i) :: As).toArray) (fun H locs ls hP hD hS hl => ?_) kx kk
  have hT : GoodIn TT (wsV own idx "java/lang/String" y (wT y bytes maxL ret)) := TT_in _ (fun w hw => by
    rcases List.mem_append.mp hw with h | h
    · simp only [List.mem_cons, List.not_mem_nil, or_false] at h
      rcases h with rfl | rfl | rfl | rfl
      · exact lk
      · exact Y.1.1
      · exact Y.1.2.1
      · exact Y.1.2.2.1
    · exact wT_in Y.1.2.2.2 w h)
  have cw := cwV (R := xR X) (rm := rmL d2 mc ms) (mc := mc) (ms := ms) (bytes := bytes) (maxL := maxL) (ret := ret) (ws := wT y bytes maxL ret) As.length C.2.2.2.2.1 hT rfl rfl rfl ⟨Y.2.1, Y.2.2.1, Y.2.2.2.1, Y.2.2.2.2.1⟩ (by rw [C.2.2.2.2.2.2.2.2.2.1]; exact rm_fits hd Y.2.2.2.2.2)
  have hrec : ∃ cell : Cell, H[(xK X).2.2.1 i]? = some cell ∧ cell.vm.isStatics = false ∧ (xs X).vm.findClass "java/lang/String" = some cell.cls := by
    obtain ⟨cell, h1, h2, h3, -⟩ := (C.2.2.2.2.2.2.2.2.2.2.2.2.2.2.2.1 i q hq).2.1.kept hS.2.1
    exact ⟨cell, h1, h2, h3⟩
  refine vx_runV (nL := nL) (Ts := TT) (b := (xK X).2.2.1 i) (As := As) ⟨C.1, C.2.1, C.2.2.1, C.2.2.2.1, C.2.2.2.2.1⟩ (M H.size) cw ⟨PreB.blind, hrec, fun U hU hW => ⟨rfl, v_pre C E hP hD hS hU hW⟩⟩ rfl rfl (by rw [← hlo]; exact hl.1) hst (by simpa using hW) hdg ?_
  rw [C.2.2.2.2.2.2.2.2.2.1]
  exact ⟨hk, hn⟩
end VS
theorem fl_cs : Cond.fieldLink RJ0 38 "java/lang/String" "COMPACT_STRINGS" "Z" ∈ TT := TT_t 285 (by decide +kernel) (by decide +kernel)
theorem fl_si : Cond.fieldLink RJ0 1053 "jdk/internal/util/Preconditions" "SIOOBE_FORMATTER" "Ljava/util/function/BiFunction;" ∈ TT := TT_t 366 (by decide +kernel) (by decide +kernel)
theorem fl_sv : Cond.fieldLink RJ0 9 "java/lang/String" "value" "[B" ∈ TT := TT_t 1470 (by decide +kernel) (by decide +kernel)
theorem fl_sc : Cond.fieldLink RJ0 15 "java/lang/String" "coder" "B" ∈ TT := TT_t 1471 (by decide +kernel) (by decide +kernel)
theorem c_J0_coder {l : Launch} (hl : l.stackTraces = false) {κ : Kp} {i : Nat} {q : SQ} (hq : SS[i]? = some q) : Ct SS MM l κ yJ0_coder_7d493 cJ0_coder_7d493 1 (some FieldType.byte) 0 0 0 [.ref (κ.2.2.1 i)] nS () ri (fun r _ => r = nI 0) (fun _ _ => False) := by
  refine Ct.of (own := RJ0) (by decide) rfl hl (by intro v hv; simp only [List.mem_cons, List.not_mem_nil, or_false] at hv; subst hv; rfl) (Nat.le_of_ble_eq_true rfl) (fun X hxl hxk C F N => ?_)
  subst hxl hxk
  show V X nS 0 [some (.ref ((xK X).2.2.1 i))] [] () 0 0
  refine v_getsC C fl_cs dJ0_coder_7d493_0 ?_
  refine v_if_eq C 13 dJ0_coder_7d493_3 (by decide) (fun c => absurd c (by decide)) (fun _ => ?_)
  refine v_aload_n C dJ0_coder_7d493_6 rfl ?_
  refine v_getSC C hq fl_sc dJ0_coder_7d493_7 ?_
  refine v_goto C 14 dJ0_coder_7d493_10 (by decide) ?_
  exact v_iret C F rfl dJ0_coder_7d493_14 (Nat.le_of_ble_eq_true rfl) (Nat.le_of_ble_eq_true rfl) rfl
theorem c_J0_isLatin1 {l : Launch} (hl : l.stackTraces = false) {κ : Kp} {i : Nat} {q : SQ} (hq : SS[i]? = some q) : Ct SS MM l κ yJ0_isLatin1_aae02 cJ0_isLatin1_aae02 1 (some FieldType.boolean) 0 0 0 [.ref (κ.2.2.1 i)] nS () ri (fun r _ => r = nI 1) (fun _ _ => False) := by
  refine Ct.of (own := RJ0) (by decide) rfl hl (by intro v hv; simp only [List.mem_cons, List.not_mem_nil, or_false] at hv; subst hv; rfl) (Nat.le_of_ble_eq_true rfl) (fun X hxl hxk C F N => ?_)
  subst hxl hxk
  show V X nS 0 [some (.ref ((xK X).2.2.1 i))] [] () 0 0
  refine v_getsC C fl_cs dJ0_isLatin1_aae02_0 ?_
  refine v_if_eq C 17 dJ0_isLatin1_aae02_3 (by decide) (fun c => absurd c (by decide)) (fun _ => ?_)
  refine v_aload_n C dJ0_isLatin1_aae02_6 rfl ?_
  refine v_getSC C hq fl_sc dJ0_isLatin1_aae02_7 ?_
  refine v_if_ne C 17 dJ0_isLatin1_aae02_10 (by decide) (fun c => absurd (by decide) c) (fun _ => ?_)
  refine v_iconst (v := nI 1) C dJ0_isLatin1_aae02_13 (by decide) ?_
  refine v_goto C 18 dJ0_isLatin1_aae02_14 (by decide) ?_
  exact v_iret C F rfl dJ0_isLatin1_aae02_18 (Nat.le_of_ble_eq_true rfl) (Nat.le_of_ble_eq_true rfl) rfl
theorem c_J0_length {l : Launch} (hl : l.stackTraces = false) {κ : Kp} {i : Nat} {q : SQ} (hq : SS[i]? = some q) : Ct SS MM l κ yJ0_length_8abf5 cJ0_length_8abf5 1 (some FieldType.int) 1 0 0 [.ref (κ.2.2.1 i)] nS () ri (fun r _ => r = nI q.2.2.2.length) (fun _ _ => False) := by
  refine Ct.of (own := RJ0) (by decide) rfl hl (by intro v hv; simp only [List.mem_cons, List.not_mem_nil, or_false] at hv; subst hv; rfl) (Nat.le_of_ble_eq_true rfl) (fun X hxl hxk C F N => ?_)
  subst hxl hxk
  show V X nS 0 [some (.ref ((xK X).2.2.1 i))] [] () 0 0
  refine v_aload_n C dJ0_length_8abf5_0 rfl ?_
  refine v_getSV C hq fl_sv dJ0_length_8abf5_1 ?_
  refine v_tlen C hq dJ0_length_8abf5_4 ?_
  refine v_aload_n C dJ0_length_8abf5_5 rfl ?_
  refine v_callKi C hq (c_J0_coder hl hq) ym_J0_coder_7d493 ml_J0_335 (emb_n fix_nS) rfl rfl rfl dJ0_length_8abf5_6 (Nat.le_of_ble_eq_true rfl) (Nat.le_of_ble_eq_true rfl) (Nat.le_of_ble_eq_true rfl) (Nat.le_of_ble_eq_true rfl) (fun _ _ hu => hu.elim) (fun r u hu => ?_)
  subst r
  refine v_ishr C dJ0_length_8abf5_9 ?_
  rw [shr_0]
  exact v_iret C F rfl dJ0_length_8abf5_10 (Nat.le_of_ble_eq_true rfl) (Nat.le_of_ble_eq_true rfl) rfl
theorem c_J3_checkIndex {l : Launch} (hl : l.stackTraces = false) {κ : Kp} {j N : Nat} {v : Value} (hv1 : v.category = 1) (hj : j < N) (hN : N < 2 ^ 31) : Ct SS MM l κ yJ3_checkIndex_8e157 cJ3_checkIndex_8e157 3 (some FieldType.int) 0 0 0 [.int (nI j), .int (nI N), v] nS () ri (fun _ _ => True) (fun _ _ => False) := by
  refine Ct.of (own := RJ3) (by decide) rfl hl (by intro w hw; simp only [List.mem_cons, List.not_mem_nil, or_false] at hw; rcases hw with rfl | rfl | rfl <;> first | rfl | exact hv1) (Nat.le_of_ble_eq_true rfl) (fun X hxl hxk C F N2 => ?_)
  subst hxl hxk
  show V X nS 0 [some (.int (nI j)), some (.int (nI N)), some v] [] () 0 0
  refine v_iload_n C dJ3_checkIndex_8e157_0 rfl ?_
  refine v_if_lt C 9 dJ3_checkIndex_8e157_1 (by decide) (fun c => absurd c (by rw [nI_toInt (by omega)]; omega)) (fun _ => ?_)
  refine v_iload_n C dJ3_checkIndex_8e157_4 rfl ?_
  refine v_iload_n C dJ3_checkIndex_8e157_5 rfl ?_
  refine v_icmp_ltN C 16 dJ3_checkIndex_8e157_6 (by decide) (by omega) (by omega) (fun _ => ?_) (fun c => absurd hj (by omega))
  refine v_iload_n C dJ3_checkIndex_8e157_16 rfl ?_
  exact v_iret C F rfl dJ3_checkIndex_8e157_17 (Nat.le_of_ble_eq_true rfl) (Nat.le_of_ble_eq_true rfl) trivial
theorem c_J0_checkIndex {l : Launch} (hl : l.stackTraces = false) {κ : Kp} {j N : Nat} (hj : j < N) (hN : N < 2 ^ 31) : Ct SS MM l κ yJ0_checkIndex_df160 cJ0_checkIndex_df160 2 none 1 0 0 [.int (nI j), .int (nI N)] nS () rv (fun _ _ => True) (fun _ _ => False) := by
  refine Ct.of (own := RJ0) (by decide) rfl hl (by intro w hw; simp only [List.mem_cons, List.not_mem_nil, or_false] at hw; rcases hw with rfl | rfl <;> rfl) (Nat.le_of_ble_eq_true rfl) (fun X hxl hxk C F N2 => ?_)
  subst hxl hxk
  show V X nS 0 [some (.int (nI j)), some (.int (nI N))] [] () 0 0
  refine v_iload_n C dJ0_checkIndex_df160_0 rfl ?_
  refine v_iload_n C dJ0_checkIndex_df160_1 rfl ?_
  refine v_getsQ C fl_si dJ0_checkIndex_df160_2 (fun v hv1 => ?_)
  refine v_callOi C (As := [.int (nI j), .int (nI N), v]) (rest := []) (c_J3_checkIndex hl hv1 hj hN) ys_J3_checkIndex_8e157 ml_J0_1059 (emb_n fix_nS) rfl rfl rfl dJ0_checkIndex_df160_5 (Nat.le_of_ble_eq_true rfl) (Nat.le_of_ble_eq_true rfl) (Nat.le_of_ble_eq_true rfl) (Nat.le_of_ble_eq_true rfl) (fun _ _ hu => hu.elim) (fun r u hu => ?_)
  refine v_pop C dJ0_checkIndex_df160_8 rfl ?_
  exact v_vret C F dJ0_checkIndex_df160_9 (Nat.le_of_ble_eq_true rfl) (Nat.le_of_ble_eq_true rfl) trivial
theorem c_J1_charAt {l : Launch} (hl : l.stackTraces = false) {κ : Kp} {i j : Nat} {q : SQ} (hq : SS[i]? = some q) (hj : j < q.2.2.2.length) : Ct SS MM l κ yJ1_charAt_3b067 cJ1_charAt_3b067 2 (some FieldType.char) 2 0 0 [.ref (κ.2.2.2 i), .int (nI j)] nS () ri (fun r _ => r = nI (q.2.2.2.getD j 0)) (fun _ _ => False) := by
  have hok := SS_ok hq
  have hb : q.2.2.2.getD j 0 < 128 := hok.2 _ (by rw [List.getD_eq_getElem?_getD, List.getElem?_eq_getElem hj]; exact List.getElem_mem hj)
  refine Ct.of (own := RJ1) (by decide) rfl hl (by intro w hw; simp only [List.mem_cons, List.not_mem_nil, or_false] at hw; rcases hw with rfl | rfl <;> rfl) (Nat.le_of_ble_eq_true rfl) (fun X hxl hxk C F N2 => ?_)
  subst hxl hxk
  show V X nS 0 [some (.ref ((xK X).2.2.2 i)), some (.int (nI j))] [] () 0 0
  refine v_iload_n C dJ1_charAt_3b067_0 rfl ?_
  refine v_aload_n C dJ1_charAt_3b067_1 rfl ?_
  refine v_tlen C hq dJ1_charAt_3b067_2 ?_
  refine v_callOv C (As := [.int (nI j), .int (nI q.2.2.2.length)]) (rest := []) (c_J0_checkIndex hl hj (by omega)) ys_J0_checkIndex_df160 ml_J1_9 (emb_n fix_nS) rfl rfl rfl dJ1_charAt_3b067_3 (Nat.le_of_ble_eq_true rfl) (Nat.le_of_ble_eq_true rfl) (Nat.le_of_ble_eq_true rfl) (Nat.le_of_ble_eq_true rfl) (fun _ _ hu => hu.elim) (fun r u hu => ?_)
  refine v_aload_n C dJ1_charAt_3b067_6 rfl ?_
  refine v_iload_n C dJ1_charAt_3b067_7 rfl ?_
  refine v_tb C hq hj (by omega) dJ1_charAt_3b067_8 ?_
  refine v_sipush (v := nI 255) C dJ1_charAt_3b067_9 (by decide) ?_
  refine v_iand C dJ1_charAt_3b067_12 ?_
  rw [ch_and _ hb]
  refine v_i2c C dJ1_charAt_3b067_13 (ch_i2c _ hb) ?_
  exact v_iret C F (ch_nar _ hb) dJ1_charAt_3b067_14 (Nat.le_of_ble_eq_true rfl) (Nat.le_of_ble_eq_true rfl) rfl
theorem c_J0_charAt {l : Launch} (hl : l.stackTraces = false) {κ : Kp} {i j : Nat} {q : SQ} (hq : SS[i]? = some q) (hj : j < q.2.2.2.length) : Ct SS MM l κ yJ0_charAt_5068e cJ0_charAt_5068e 2 (some FieldType.char) 3 0 0 [.ref (κ.2.2.1 i), .int (nI j)] nS () ri (fun r _ => r = nI (q.2.2.2.getD j 0)) (fun _ _ => False) := by
  have hok := SS_ok hq
  have hb : q.2.2.2.getD j 0 < 128 := hok.2 _ (by rw [List.getD_eq_getElem?_getD, List.getElem?_eq_getElem hj]; exact List.getElem_mem hj)
  refine Ct.of (own := RJ0) (by decide) rfl hl (by intro w hw; simp only [List.mem_cons, List.not_mem_nil, or_false] at hw; rcases hw with rfl | rfl <;> rfl) (Nat.le_of_ble_eq_true rfl) (fun X hxl hxk C F N2 => ?_)
  subst hxl hxk
  show V X nS 0 [some (.ref ((xK X).2.2.1 i)), some (.int (nI j))] [] () 0 0
  refine v_aload_n C dJ0_charAt_5068e_0 rfl ?_
  refine v_callKi C hq (c_J0_isLatin1 hl hq) ym_J0_isLatin1_aae02 ml_J0_492 (emb_n fix_nS) rfl rfl rfl dJ0_charAt_5068e_1 (Nat.le_of_ble_eq_true rfl) (Nat.le_of_ble_eq_true rfl) (Nat.le_of_ble_eq_true rfl) (Nat.le_of_ble_eq_true rfl) (fun _ _ hu => hu.elim) (fun r u hu => ?_)
  subst r
  refine v_if_eq C 16 dJ0_charAt_5068e_4 (by decide) (fun c => absurd c (by decide)) (fun _ => ?_)
  refine v_aload_n C dJ0_charAt_5068e_7 rfl ?_
  refine v_getSV C hq fl_sv dJ0_charAt_5068e_8 ?_
  refine v_iload_n C dJ0_charAt_5068e_11 rfl ?_
  refine v_callOi C (As := [.ref ((xK X).2.2.2 i), .int (nI j)]) (rest := []) (c_J1_charAt hl hq hj) ys_J1_charAt_3b067 ml_J0_495 (emb_n fix_nS) rfl rfl rfl dJ0_charAt_5068e_12 (Nat.le_of_ble_eq_true rfl) (Nat.le_of_ble_eq_true rfl) (Nat.le_of_ble_eq_true rfl) (Nat.le_of_ble_eq_true rfl) (fun _ _ hu => hu.elim) (fun r u hu => ?_)
  subst r
  exact v_iret C F (ch_nar _ hb) dJ0_charAt_5068e_15 (Nat.le_of_ble_eq_true rfl) (Nat.le_of_ble_eq_true rfl) rfl
