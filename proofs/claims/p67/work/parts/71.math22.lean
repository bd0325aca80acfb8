/-! THE TEXT IS READ: what was drawn gives the same memory -/
def Bt (b : Nat → Int32) (T : List Nat) : Prop := ∀ j, j < T.length → b j = nI (T.getD j 0)
def At (T : List Nat) (e : Nat) (S : List Nat) : Prop := ∃ A : List Nat, T = A ++ S ∧ A.length = e
theorem At.len {T S : List Nat} {e : Nat} (h : At T e S) : T.length = e + S.length := by
  obtain ⟨A, rfl, rfl⟩ := h
  rw [List.length_append]
theorem At.b {b : Nat → Int32} {T S : List Nat} {e j : Nat} (hb : Bt b T) (h : At T e S) (hj : j < S.length) : b (e + j) = nI (S.getD j 0) := by
  rw [hb (e + j) (by rw [h.len]; omega)]
  obtain ⟨A, rfl, rfl⟩ := h
  rw [List.getD_eq_getElem?_getD, List.getD_eq_getElem?_getD, List.getElem?_append_right (by omega), Nat.add_sub_cancel_left]
theorem At.step {T U S : List Nat} {e : Nat} (h : At T e (U ++ S)) : At T (e + U.length) S := by
  obtain ⟨A, rfl, rfl⟩ := h
  exact ⟨A ++ U, by rw [List.append_assoc], by rw [List.length_append]⟩
theorem At.lat {T S : List Nat} {e : Nat} (h : At T e S) (hl : Lat T) : Lat S := by
  obtain ⟨A, rfl, rfl⟩ := h
  exact fun c hc => hl c (List.mem_append_right _ hc)
theorem runB_run {p : Nat → Bool} {n : Nat} : ∀ (k i : Nat), i + k ≤ n → (∀ j, i ≤ j → j < i + k → p j = true) → (i + k < n → p (i + k) = false) → runB p n i = i + k
  | 0, i, h, _, h2 => by
    by_cases c : i < n
    · have h3 : p i = false := h2 c
      rw [runB_s c, h3]
      rfl
    · rw [runB_0 (by omega)]
      rfl
  | k + 1, i, h, h1, h2 => by
    rw [runB_s (by omega), if_pos (h1 i (Nat.le_refl _) (by omega)), runB_run k (i + 1) (by omega) (fun j a1 a2 => h1 j (by omega) (by omega)) (fun c => by rw [show i + 1 + k = i + (k + 1) by omega]; exact h2 (by omega))]
    omega
def isL (c : Nat) : Prop := 97 ≤ c ∧ c ≤ 122
def isG (c : Nat) : Prop := 48 ≤ c ∧ c ≤ 57
section TK
variable {b : Nat → Int32} {T S : List Nat} {e j : Nat}
theorem spc_at (hb : Bt b T) (hl : Lat T) (h : At T e S) (hj : j < S.length) : spc b (e + j) = true ↔ S.getD j 0 = 32 := by
  have hc := (h.lat hl).get j
  unfold spc
  rw [h.b hb hj, beq_iff_eq]
  exact ⟨fun z => nI_inj (by omega) (by omega) z, fun z => by rw [z]⟩
theorem ltr_at (hb : Bt b T) (hl : Lat T) (h : At T e S) (hj : j < S.length) : ltr b T.length (e + j) = true ↔ isL (S.getD j 0) := by
  have hc := (h.lat hl).get j
  unfold ltr isL
  rw [h.b hb hj, nI_toInt (by omega)]
  simp only [Bool.and_eq_true, decide_eq_true_eq, h.len]
  omega
theorem dgt_at (hb : Bt b T) (hl : Lat T) (h : At T e S) (hj : j < S.length) : dgt b T.length (e + j) = true ↔ isG (S.getD j 0) := by
  have hc := (h.lat hl).get j
  unfold dgt isG
  rw [h.b hb hj, nI_toInt (by omega)]
  simp only [Bool.and_eq_true, decide_eq_true_eq, h.len]
  omega
end TK
theorem getD_app {U S : List Nat} {j : Nat} (h : j < U.length) : (U ++ S).getD j 0 = U.getD j 0 := by
  rw [List.getD_eq_getElem?_getD, List.getD_eq_getElem?_getD, List.getElem?_append_left h]
theorem getD_app2 {U S : List Nat} {j : Nat} : (U ++ S).getD (U.length + j) 0 = S.getD j 0 := by
  rw [List.getD_eq_getElem?_getD, List.getD_eq_getElem?_getD, List.getElem?_append_right (by omega), Nat.add_sub_cancel_left]
theorem getD_mem {U : List Nat} {j : Nat} (h : j < U.length) : U.getD j 0 ∈ U := by
  rw [List.getD_eq_getElem?_getD, List.getElem?_eq_getElem h]
  exact List.getElem_mem h
/-- what stands behind a word or a number -/
def Stop (P : Nat → Prop) (R : List Nat) : Prop := 0 < R.length → ¬ P (R.getD 0 0)
section TK2
variable {b : Nat → Int32} {T sp w R : List Nat} {e : Nat}
theorem sp_run (hb : Bt b T) (hl : Lat T) (ha : At T e (sp ++ (w ++ R))) (hs : sp = [] ∨ sp = [32]) (h0 : 0 < w.length) (hw : ¬ w.getD 0 0 = 32) : runB (spc b) T.length e = e + sp.length := by
  have hlen := ha.len
  rw [List.length_append, List.length_append] at hlen
  refine runB_run _ _ (by omega) (fun j a1 a2 => ?_) (fun _ => ?_)
  · obtain ⟨i, rfl⟩ : ∃ i, j = e + i := ⟨j - e, by omega⟩
    rw [spc_at hb hl ha (by rw [List.length_append]; omega), getD_app (by omega)]
    rcases hs with rfl | rfl
    · exact absurd a2 (by show ¬ e + i < e + 0; omega)
    · have : i = 0 := by have : e + i < e + 1 := a2; omega
      subst this
      rfl
  · have hq := spc_at (j := 0) hb hl ha.step (by rw [List.length_append]; omega)
    rw [Nat.add_zero, getD_app h0] at hq
    cases e9 : spc b (e + sp.length) with
    | false => rfl
    | true => exact absurd (hq.mp e9) hw
theorem tok_word (hb : Bt b T) (hl : Lat T) (ha : At T e (sp ++ (w ++ R))) (hs : sp = [] ∨ sp = [32]) (hw : ∀ c ∈ w, isL c) (h0 : 0 < w.length) (h8 : w.length ≤ 8) (hR : Stop isL R) : tok b T.length e = (1, e + sp.length, e + sp.length + w.length, 0) := by
  have hlen := ha.len
  rw [List.length_append, List.length_append] at hlen
  have hw0 : isL (w.getD 0 0) := hw _ (getD_mem h0)
  have r1 := sp_run hb hl ha hs h0 (fun z => by rw [z] at hw0; unfold isL at hw0; omega)
  have ha2 := ha.step
  have hb0 := ha2.b (j := 0) hb (by rw [List.length_append]; omega)
  rw [Nat.add_zero, getD_app h0] at hb0
  have hc := (ha2.lat hl).get 0
  rw [getD_app h0] at hc
  have r2 : runB (ltr b T.length) T.length (e + sp.length) = e + sp.length + w.length := by
    refine runB_run _ _ (by omega) (fun j a1 a2 => ?_) (fun c => ?_)
    · obtain ⟨i, rfl⟩ : ∃ i, j = e + sp.length + i := ⟨j - (e + sp.length), by omega⟩
      rw [ltr_at hb hl ha2 (by rw [List.length_append]; omega), getD_app (by omega)]
      exact hw _ (getD_mem (by omega))
    · have hq := ltr_at (j := w.length + 0) hb hl ha2 (by rw [List.length_append]; omega)
      rw [getD_app2, Nat.add_zero] at hq
      cases e9 : ltr b T.length (e + sp.length + w.length) with
      | false => rfl
      | true => exact absurd (hq.mp e9) (hR (by omega))
  have l0 : ltr b T.length (e + sp.length) = true := by
    have hq := ltr_at (j := 0) hb hl ha2 (by rw [List.length_append]; omega)
    rw [Nat.add_zero, getD_app h0] at hq
    exact hq.mpr hw0
  unfold tok
  rw [r1, if_neg (by omega), if_neg (by
    rw [hb0]
    intro z
    have := nI_inj (by omega) (by omega) z
    unfold isL at hw0
    omega), if_pos l0, r2, if_neg (by omega)]
theorem numG_digs {x : Nat} (hx : x < 1000) {s : Nat} (h : ∀ j, j < (digs x).length → b (s + j) = nI ((digs x).getD j 0)) : numG b s (digs x).length 0 = x := by
  unfold digs at h ⊢
  by_cases c1 : x < 10
  · rw [if_pos c1] at h ⊢
    have e0 := h 0 (by show 0 < 1; omega)
    show numG b (s + 1) 0 (0 * 10 + (b s).toInt.toNat - 48) = x
    rw [Nat.add_zero] at e0
    rw [e0, nI_toInt (by show 48 + x % 10 < _; omega)]
    show 0 * 10 + ((48 + x % 10 : Nat) : Int).toNat - 48 = x
    omega
  · rw [if_neg c1] at h ⊢
    by_cases c2 : x < 100
    · rw [if_pos c2] at h ⊢
      have e0 := h 0 (by show 0 < 2; omega)
      have e1 := h 1 (by show 1 < 2; omega)
      rw [Nat.add_zero] at e0
      show numG b (s + 1 + 1) 0 ((0 * 10 + (b s).toInt.toNat - 48) * 10 + (b (s + 1)).toInt.toNat - 48) = x
      rw [e0, e1, nI_toInt (by show 48 + x / 10 < _; omega), nI_toInt (by show 48 + x % 10 < _; omega)]
      show (0 * 10 + ((48 + x / 10 : Nat) : Int).toNat - 48) * 10 + ((48 + x % 10 : Nat) : Int).toNat - 48 = x
      omega
    · rw [if_neg c2] at h ⊢
      have e0 := h 0 (by show 0 < 3; omega)
      have e1 := h 1 (by show 1 < 3; omega)
      have e2 := h 2 (by show 2 < 3; omega)
      rw [Nat.add_zero] at e0
      show numG b (s + 1 + 1 + 1) 0 (((0 * 10 + (b s).toInt.toNat - 48) * 10 + (b (s + 1)).toInt.toNat - 48) * 10 + (b (s + 2)).toInt.toNat - 48) = x
      rw [e0, e1, e2, nI_toInt (by show 48 + x / 100 % 10 < _; omega), nI_toInt (by show 48 + x % 100 / 10 < _; omega), nI_toInt (by show 48 + x % 100 % 10 < _; omega)]
      show ((0 * 10 + ((48 + x / 100 % 10 : Nat) : Int).toNat - 48) * 10 + ((48 + x % 100 / 10 : Nat) : Int).toNat - 48) * 10 + ((48 + x % 100 % 10 : Nat) : Int).toNat - 48 = x
      omega
theorem digs_G {x : Nat} : ∀ c ∈ digs x, isG c := by
  intro c hc
  unfold digs at hc
  unfold isG
  split at hc
  · simp only [List.mem_cons, List.not_mem_nil, or_false] at hc
    omega
  · split at hc
    · rename_i h1 h2
      simp only [List.mem_cons, List.not_mem_nil, or_false] at hc
      omega
    · simp only [List.mem_cons, List.not_mem_nil, or_false] at hc
      omega
theorem tok_num {x : Nat} (hb : Bt b T) (hl : Lat T) (ha : At T e (sp ++ (digs x ++ R))) (hs : sp = [] ∨ sp = [32]) (hx : x < 1000) (hR : Stop isG R) : tok b T.length e = (2, e + sp.length, e + sp.length + dig x, x) := by
  have hdl := digs_len x
  have hd3 := dig_le x
  have h0 : 0 < (digs x).length := by omega
  have hlen := ha.len
  rw [List.length_append, List.length_append] at hlen
  have hw0 : isG ((digs x).getD 0 0) := digs_G _ (getD_mem h0)
  have r1 := sp_run hb hl ha hs h0 (fun z => by rw [z] at hw0; unfold isG at hw0; omega)
  have ha2 := ha.step
  have hb0 := ha2.b (j := 0) hb (by rw [List.length_append]; omega)
  rw [Nat.add_zero, getD_app h0] at hb0
  have r2 : runB (dgt b T.length) T.length (e + sp.length) = e + sp.length + (digs x).length := by
    refine runB_run _ _ (by omega) (fun j a1 a2 => ?_) (fun c => ?_)
    · obtain ⟨i, rfl⟩ : ∃ i, j = e + sp.length + i := ⟨j - (e + sp.length), by omega⟩
      rw [dgt_at hb hl ha2 (by rw [List.length_append]; omega), getD_app (by omega)]
      exact digs_G _ (getD_mem (by omega))
    · have hq := dgt_at (j := (digs x).length + 0) hb hl ha2 (by rw [List.length_append]; omega)
      rw [getD_app2, Nat.add_zero] at hq
      cases e9 : dgt b T.length (e + sp.length + (digs x).length) with
      | false => rfl
      | true => exact absurd (hq.mp e9) (hR (by omega))
  have l0 : dgt b T.length (e + sp.length) = true := by
    have hq := dgt_at (j := 0) hb hl ha2 (by rw [List.length_append]; omega)
    rw [Nat.add_zero, getD_app h0] at hq
    exact hq.mpr hw0
  have l1 : ¬ ltr b T.length (e + sp.length) = true := by
    have hq := ltr_at (j := 0) hb hl ha2 (by rw [List.length_append]; omega)
    rw [Nat.add_zero, getD_app h0] at hq
    rw [hq]
    unfold isG at hw0
    unfold isL
    omega
  have hn : numG b (e + sp.length) (digs x).length 0 = x := numG_digs hx (fun j hj => by
    rw [ha2.b hb (by rw [List.length_append]; omega), getD_app hj])
  unfold tok
  rw [r1, if_neg (by omega), if_neg (by
    rw [hb0]
    intro z
    unfold isG at hw0
    have := nI_inj (by omega) (by omega) z
    omega), if_neg l1, if_pos l0, r2, show e + sp.length + (digs x).length - (e + sp.length) = (digs x).length by omega, if_neg (by omega), hn, hdl]
theorem tok_semi (hb : Bt b T) (hl : Lat T) (ha : At T e (59 :: R)) : tok b T.length e = (3, e, e + 1, 0) := by
  have hlen := ha.len
  rw [List.length_cons] at hlen
  have r1 : runB (spc b) T.length e = e := by
    have := runB_run (p := spc b) (n := T.length) 0 e (by omega) (fun j a1 a2 => absurd a2 (by omega)) (fun _ => by
      have hq := spc_at (j := 0) hb hl ha (by rw [List.length_cons]; omega)
      rw [Nat.add_zero] at hq ⊢
      cases e9 : spc b e with
      | false => rfl
      | true => exact absurd (hq.mp e9) (by show ¬ 59 = 32; omega))
    rw [Nat.add_zero] at this
    exact this
  have hb0 := ha.b (j := 0) hb (by rw [List.length_cons]; omega)
  rw [Nat.add_zero] at hb0
  have hb0 : b e = nI 59 := hb0
  unfold tok
  rw [r1, if_neg (by omega), if_pos hb0]
theorem tok_end (ha : At T e []) : tok b T.length e = (0, e, e, 0) := by
  have hlen := ha.len
  rw [List.length_nil, Nat.add_zero] at hlen
  have r1 : runB (spc b) T.length e = e := by rw [hlen]; exact runB_0 (Nat.le_refl _)
  unfold tok
  rw [r1, if_pos (by omega)]
end TK2
theorem anyG_no {f : Nat → Bool} : ∀ (k i : Nat), anyG f i k = false → ∀ j, i ≤ j → j < i + k → f j = false
  | 0, i, _, j, h1, h2 => absurd h2 (by omega)
  | k + 1, i, h, j, h1, h2 => by
    have h : (f i || anyG f (i + 1) k) = false := h
    rw [Bool.or_eq_false_iff] at h
    by_cases e : j = i
    · subst e; exact h.1
    · exact anyG_no k (i + 1) h.2 j (by omega) (by omega)
theorem anyG_all {f : Nat → Bool} : ∀ (k i : Nat), (∀ j, i ≤ j → j < i + k → f j = false) → anyG f i k = false
  | 0, _, _ => rfl
  | k + 1, i, h => by
    show (f i || anyG f (i + 1) k) = false
    rw [h i (Nat.le_refl _) (by omega), anyG_all k (i + 1) (fun j a1 a2 => h j (by omega) (by omega))]
    rfl
/-- the token is the word w, or it is another one -/
theorem isW_at {b : Nat → Int32} {T u S : List Nat} {s : Nat} (hb : Bt b T) (hl : Lat T) (ha : At T s (u ++ S)) (w : List Nat) (hw : Lat w) : isW b w (1, s, s + u.length, 0) = decide (u = w) := by
  have hu : ∀ j, j < u.length → b (s + j) = nI (u.getD j 0) := fun j hj => by rw [ha.b hb (by rw [List.length_append]; omega), getD_app hj]
  have hul : Lat u := fun c hc => (ha.lat hl) c (List.mem_append_left _ hc)
  unfold isW
  dsimp only
  rw [show s + u.length - s = u.length by omega]
  by_cases c : u = w
  · subst c
    rw [anyG_all u.length 0 (fun j _ hj => wrB_f (hu j (by omega)))]
    simp
  · rw [decide_eq_false c]
    by_cases c2 : u.length = w.length
    · have : anyG (wrB b s w) 0 w.length = true := by
        cases e : anyG (wrB b s w) 0 w.length with
        | true => rfl
        | false =>
          exfalso
          apply c
          apply List.ext_getElem? 
          intro j
          by_cases hj : j < u.length
          · have h1 := anyG_no w.length 0 e j (Nat.zero_le _) (by omega)
            have h2 : b (s + j) = nI (w.getD j 0) := by
              unfold wrB at h1
              simpa using h1
            rw [hu j hj] at h2
            have h3 := nI_inj (by have := hul.get j; omega) (by have := hw.get j; omega) h2
            rw [List.getElem?_eq_getElem hj, List.getElem?_eq_getElem (by omega)]
            rw [List.getD_eq_getElem?_getD, List.getD_eq_getElem?_getD, List.getElem?_eq_getElem hj, List.getElem?_eq_getElem (by omega : j < w.length)] at h3
            exact congrArg some h3
          · rw [List.getElem?_eq_none (by omega), List.getElem?_eq_none (by omega)]
      rw [this]
      simp
    · rw [decide_eq_false c2]
      simp
