/-! THE LAW'S MEMORY: its cells, at the addresses h (h 0 the object, h 1 .. h 4 its rows, h (8 + i) place i), its events at the addresses e; m says all that they hold -/
abbrev Lm : Type := Mg × (Nat → Nat) × Int32
def srcV (h : Nat → Nat) (m : Mg) (i : Nat) : Option Nat := if m 2 i = -1 then none else some (h (8 + src m i))
def plf (h : Nat → Nat) (m : Mg) (i : Nat) : List Value := [.int (nI i), .int (m 1 i), .int (m 3 i), va_rf (srcV h m i), .int (m 4 i)]
def plc (h : Nat → Nat) (m : Mg) (i : Nat) : Nat × va_E := (h (8 + i), .inr (8, plf h m i))
/-- a row of three -/
def ev3 (a b c : Int32) : Nat → Int32 := upd (upd (upd (fun _ => 0) 0 a) 1 b) 2 c
def evc (κ : Kp) (e : Nat → Nat) (m : Mg) (k : Nat) : Nat × va_E := cI κ (e k) 3 (ev3 (m 7 (k * 3)) (m 7 (k * 3 + 1)) (m 7 (k * 3 + 2)))
def evq (e : Nat → Nat) (L : Nat) : Nat → Option Nat := fun k => if k < L then some (e k) else none
def pq0 (h : Nat → Nat) (j : Nat) : Nat → Option Nat := fun i => if i < j then some (h (8 + i)) else none
def lmF (h : Nat → Nat) (g : Lm) : List Value := [.ref (h 5), .ref (h 1), .ref (h 2), .ref (h 3), .ref (h 4), .int g.2.2, .int (g.1 0 8)]
def lmH (κ : Kp) (h : Nat → Nat) (n : Nat) (g : Lm) : va_W := [(h 0, .inr (7, lmF h g)), cP κ (h 1) n (pq0 h n), cI κ (h 2) 5 (g.1 5), cI κ (h 3) 9 (g.1 6), cE κ (h 4) 80 (evq g.2.1 (evN g.1))]
def lmP (h : Nat → Nat) (n : Nat) (m : Mg) : va_W := (List.range n).map (plc h m)
def lmE (κ : Kp) (e : Nat → Nat) (m : Mg) : va_W := (List.range (evN m)).map (evc κ e m)
def lmW (κ : Kp) (h : Nat → Nat) (n : Nat) (g : Lm) : va_W := lmH κ h n g ++ (lmP h n g.1 ++ lmE κ g.2.1 g.1)
section LW
variable {κ : Kp} {h : Nat → Nat} {n j : Nat} {m m2 : Mg} {e : Nat → Nat} {p : Int32} {g : Lm}
theorem lm_0 : (lmW κ h n g)[0]? = some (h 0, .inr (7, lmF h g)) := rfl
theorem lm_1 : (lmW κ h n g)[1]? = some (cP κ (h 1) n (pq0 h n)) := rfl
theorem lm_2 : (lmW κ h n g)[2]? = some (cI κ (h 2) 5 (g.1 5)) := rfl
theorem lm_3 : (lmW κ h n g)[3]? = some (cI κ (h 3) 9 (g.1 6)) := rfl
theorem lm_4 : (lmW κ h n g)[4]? = some (cE κ (h 4) 80 (evq g.2.1 (evN g.1))) := rfl
theorem lmP_at (hj : j < n) : (lmP h n m)[j]? = some (plc h m j) := by
  unfold lmP
  rw [List.getElem?_map, List.getElem?_range hj]
  rfl
theorem len_lmP : (lmP h n m).length = n := by unfold lmP; simp
theorem len_lmE : (lmE κ e m).length = evN m := by unfold lmE; simp
theorem plc_at (hj : j < n) : (lmW κ h n g)[5 + j]? = some (h (8 + j), .inr (8, plf h g.1 j)) := by
  unfold lmW
  rw [List.getElem?_append_right (show (lmH κ h n g).length ≤ 5 + j from Nat.le_add_right 5 j), show 5 + j - (lmH κ h n g).length = j from Nat.add_sub_cancel_left 5 j, List.getElem?_append_left (by rw [len_lmP]; exact hj)]
  exact lmP_at hj
theorem ev_at {k : Nat} (hk : k < evN g.1) : (lmW κ h n g)[5 + (n + k)]? = some (evc κ g.2.1 g.1 k) := by
  unfold lmW
  rw [List.getElem?_append_right (show (lmH κ h n g).length ≤ 5 + (n + k) from Nat.le_add_right 5 _), show 5 + (n + k) - (lmH κ h n g).length = n + k from Nat.add_sub_cancel_left 5 _, List.getElem?_append_right (by rw [len_lmP]; exact Nat.le_add_right _ _), len_lmP, Nat.add_sub_cancel_left]
  unfold lmE
  rw [List.getElem?_map, List.getElem?_range hk]
  rfl
theorem lmP_set (hj : j < n) {x : Nat × va_E} (h1 : plc h m2 j = x) (h2 : ∀ i, i < n → ¬ i = j → plf h m2 i = plf h m i) : (lmP h n m).set j x = lmP h n m2 := by
  apply List.ext_getElem?
  intro i
  by_cases hi : i < n
  · by_cases e1 : i = j
    · subst e1
      rw [List.getElem?_set_self (by rw [len_lmP]; exact hj), lmP_at hj, h1]
    · rw [List.getElem?_set_ne (Ne.symm e1), lmP_at hi, lmP_at hi]
      unfold plc
      rw [h2 i hi e1]
  · rw [List.getElem?_eq_none (by rw [List.length_set, len_lmP]; omega), List.getElem?_eq_none (by rw [len_lmP]; omega)]
/-- a place changes -/
theorem pl_set (hj : j < n) {fs : List Value} (h1 : plf h m2 j = fs) (h2 : ∀ i, i < n → ¬ i = j → plf h m2 i = plf h m i) (h0 : m2 0 8 = m 0 8) (h5 : m2 5 = m 5) (h6 : m2 6 = m 6) (h7 : m2 7 = m 7) : (lmW κ h n (m, e, p)).set (5 + j) (h (8 + j), .inr (8, fs)) = lmW κ h n (m2, e, p) := by
  have hE : evN m2 = evN m := by unfold evN; rw [h0]
  have a1 : lmH κ h n (m2, e, p) = lmH κ h n (m, e, p) := by
    unfold lmH lmF
    dsimp only
    rw [h0, h5, h6, hE]
  have a2 : lmE κ e m2 = lmE κ e m := by
    unfold lmE
    rw [hE]
    unfold evc
    rw [h7]
  unfold lmW
  dsimp only
  rw [a1, a2, List.set_append, if_neg (show ¬ 5 + j < (lmH κ h n (m, e, p)).length from Nat.not_lt.mpr (Nat.le_add_right 5 j)), show 5 + j - (lmH κ h n (m, e, p)).length = j from Nat.add_sub_cancel_left 5 j, List.set_append, if_pos (by rw [len_lmP]; exact hj)]
  rw [lmP_set hj (m2 := m2) (by unfold plc; rw [h1]) h2]
theorem plf_byte {v : Int32} {i : Nat} : plf h (byteM m j v) i = [.int (nI i), .int (upd (m 1) j v i), .int (m 3 i), va_rf (srcV h m i), .int (m 4 i)] := rfl
theorem plf_prm {v : Int32} {i : Nat} : plf h (prmM m j v) i = [.int (nI i), .int (m 1 i), .int (upd (m 3) j v i), va_rf (srcV h m i), .int (m 4 i)] := rfl
theorem plf_lck {v : Int32} {i : Nat} : plf h (lckM m j v) i = [.int (nI i), .int (m 1 i), .int (m 3 i), va_rf (srcV h m i), .int (upd (m 4) j v i)] := rfl
theorem plf_src {v : Int32} {i : Nat} : plf h (srcM m j v) i = [.int (nI i), .int (m 1 i), .int (m 3 i), va_rf (srcV h (srcM m j v) i), .int (m 4 i)] := rfl
theorem srcV_src {v : Int32} {i : Nat} (hi : ¬ i = j) : srcV h (srcM m j v) i = srcV h m i := by
  unfold srcV src
  have e1 : srcM m j v 2 i = m 2 i := by show upd (m 2) j v i = _; exact upd_o hi
  rw [e1]
theorem srcV_none : srcV h (srcM m j (-1)) j = none := by
  unfold srcV
  have e1 : srcM m j (-1) 2 j = -1 := by show upd (m 2) j (-1) j = _; exact upd_s
  rw [if_pos e1]
theorem srcV_some {q : Nat} (hq : q < 2 ^ 31) : srcV h (srcM m j (nI q)) j = some (h (8 + q)) := by
  unfold srcV
  have e1 : srcM m j (nI q) 2 j = nI q := by show upd (m 2) j (nI q) j = _; exact upd_s
  have e2 : src (srcM m j (nI q)) j = q := by unfold src; rw [e1, nI_toInt hq]; rfl
  rw [if_neg (by rw [e1]; exact nI_nm1 hq), e2]
theorem set_stored (hj : j < n) {v : Int32} : (lmW κ h n (m, e, p)).set (5 + j) (h (8 + j), .inr (8, (plf h m j).set 1 (.int v))) = lmW κ h n (byteM m j v, e, p) := by
  refine pl_set hj ?_ (fun i hi hne => ?_) rfl rfl rfl rfl
  · rw [plf_byte, upd_s]; rfl
  · rw [plf_byte, upd_o hne]; rfl
theorem set_promise (hj : j < n) {v : Int32} : (lmW κ h n (m, e, p)).set (5 + j) (h (8 + j), .inr (8, (plf h m j).set 2 (.int v))) = lmW κ h n (prmM m j v, e, p) := by
  refine pl_set hj ?_ (fun i hi hne => ?_) rfl rfl rfl rfl
  · rw [plf_prm, upd_s]; rfl
  · rw [plf_prm, upd_o hne]; rfl
theorem set_locked (hj : j < n) {v : Int32} : (lmW κ h n (m, e, p)).set (5 + j) (h (8 + j), .inr (8, (plf h m j).set 4 (.int v))) = lmW κ h n (lckM m j v, e, p) := by
  refine pl_set hj ?_ (fun i hi hne => ?_) rfl rfl rfl rfl
  · rw [plf_lck, upd_s]; rfl
  · rw [plf_lck, upd_o hne]; rfl
theorem set_nosource (hj : j < n) : (lmW κ h n (m, e, p)).set (5 + j) (h (8 + j), .inr (8, (plf h m j).set 3 (va_rf none))) = lmW κ h n (srcM m j (-1), e, p) := by
  refine pl_set hj ?_ (fun i hi hne => ?_) rfl rfl rfl rfl
  · rw [plf_src, srcV_none]; rfl
  · rw [plf_src, srcV_src hne]; rfl
theorem set_source (hj : j < n) {q : Nat} (hq : q < 2 ^ 31) : (lmW κ h n (m, e, p)).set (5 + j) (h (8 + j), .inr (8, (plf h m j).set 3 (va_rf (some (h (8 + q)))))) = lmW κ h n (srcM m j (nI q), e, p) := by
  refine pl_set hj ?_ (fun i hi hne => ?_) rfl rfl rfl rfl
  · rw [plf_src, srcV_some hq]; rfl
  · rw [plf_src, srcV_src hne]; rfl
theorem set_acc {f : Nat → Int32} : (lmW κ h n (m, e, p)).set 3 (cI κ (h 3) 9 f) = lmW κ h n (sG m 6 f, e, p) := rfl
theorem set_set {f : Nat → Int32} : (lmW κ h n (m, e, p)).set 2 (cI κ (h 2) 5 f) = lmW κ h n (sG m 5 f, e, p) := rfl
theorem set_proms {v : Int32} : (lmW κ h n (m, e, p)).set 0 (h 0, .inr (7, (lmF h (m, e, p)).set 5 (.int v))) = lmW κ h n (m, e, v) := rfl
theorem srcV_t (ho : ¬ m 2 j = -1) : srcV h m j = some (h (8 + src m j)) := if_neg ho
theorem srcV_f (ho : m 2 j = -1) : srcV h m j = none := if_pos ho
theorem srcV_no : srcV h m j = none ↔ m 2 j = -1 := by
  unfold srcV
  by_cases ho : m 2 j = -1
  · rw [if_pos ho]; exact ⟨fun _ => ho, fun _ => rfl⟩
  · rw [if_neg ho]; exact ⟨fun z => (by cases z), fun z => absurd z ho⟩
theorem srcV_yes {a : Nat} (hs : srcV h m j = some a) : ¬ m 2 j = -1 ∧ a = h (8 + src m j) := by
  unfold srcV at hs
  by_cases ho : m 2 j = -1
  · rw [if_pos ho] at hs; cases hs
  · rw [if_neg ho] at hs; exact ⟨ho, (Option.some.inj hs).symm⟩
theorem noteM_t {a b c : Int32} (hL : evN m < 80) : noteM m a b c = sG (sG m 7 (upd (upd (upd (m 7) (evN m * 3) a) (evN m * 3 + 1) b) (evN m * 3 + 2) c)) 0 (upd (m 0) 8 (nI (evN m + 1))) := by
  unfold noteM
  rw [if_pos hL]
theorem noteM_f {a b c : Int32} (hL : ¬ evN m < 80) : noteM m a b c = m := by
  unfold noteM
  rw [if_neg hL]
theorem noteM_08 {a b c : Int32} (hL : evN m < 80) : noteM m a b c 0 8 = nI (evN m + 1) := by
  rw [noteM_t hL]
  show upd (m 0) 8 (nI (evN m + 1)) 8 = _
  exact upd_s
theorem noteM_ev {a b c : Int32} (hL : evN m < 80) : evN (noteM m a b c) = evN m + 1 := by
  show (noteM m a b c 0 8).toInt.toNat = evN m + 1
  rw [noteM_08 hL, nI_toInt (by omega)]
  rfl
/-- a new event behind the others -/
theorem log_perm {a b c : Int32} {q : Nat} (hL : evN m < 80) :
    ([cI κ q 3 (ev3 a b c)] ++ ((lmW κ h n (m, e, p)).set 4 (cE κ (h 4) 80 (va_up (evq e (evN m)) (evN m) (some q)))).set 0 (h 0, .inr (7, (lmF h (m, e, p)).set 6 (.int (nI (evN m + 1)))))).Perm (lmW κ h n (noteM m a b c, (fun k => if k = evN m then q else e k), p)) := by
  have hev := noteM_ev (m := m) (a := a) (b := b) (c := c) hL
  have h08 : noteM m a b c 0 8 = nI (evN m + 1) := noteM_08 hL
  have hc : ∀ x, ¬ x = 0 → ¬ x = 7 → noteM m a b c x = m x := fun x h0 h7 => noteM_c h0 h7
  have e1 : ((lmW κ h n (m, e, p)).set 4 (cE κ (h 4) 80 (va_up (evq e (evN m)) (evN m) (some q)))).set 0 (h 0, .inr (7, (lmF h (m, e, p)).set 6 (.int (nI (evN m + 1))))) = lmH κ h n (noteM m a b c, (fun k => if k = evN m then q else e k), p) ++ (lmP h n m ++ lmE κ e m) := by
    have e2 : evq (fun k => if k = evN m then q else e k) (evN m + 1) = va_up (evq e (evN m)) (evN m) (some q) := by
      funext k
      unfold evq va_up
      by_cases h1 : k = evN m
      · rw [if_pos h1, if_pos (by omega)]
        show some (if k = evN m then q else e k) = _
        rw [if_pos h1]
      · rw [if_neg h1]
        by_cases h2 : k < evN m
        · show _ = if k < evN m then some (e k) else none
          rw [if_pos (by omega), if_pos h2]
          show some (if k = evN m then q else e k) = _
          rw [if_neg h1]
        · show _ = if k < evN m then some (e k) else none
          rw [if_neg (by omega), if_neg h2]
    unfold lmH lmF
    dsimp only
    rw [hev, h08, hc 5 (by decide) (by decide), hc 6 (by decide) (by decide), e2]
    rfl
  have e3 : lmP h n (noteM m a b c) = lmP h n m := by
    unfold lmP
    apply List.map_congr_left
    intro i _
    unfold plc plf srcV src
    rw [hc 1 (by decide) (by decide), hc 2 (by decide) (by decide), hc 3 (by decide) (by decide), hc 4 (by decide) (by decide)]
  have e4 : lmE κ (fun k => if k = evN m then q else e k) (noteM m a b c) = lmE κ e m ++ [cI κ q 3 (ev3 a b c)] := by
    unfold lmE
    rw [hev, List.range_succ, List.map_append]
    have h7 : noteM m a b c 7 = upd (upd (upd (m 7) (evN m * 3) a) (evN m * 3 + 1) b) (evN m * 3 + 2) c := by rw [noteM_t hL]; rfl
    congr 1
    · apply List.map_congr_left
      intro k hk
      have hk := List.mem_range.mp hk
      unfold evc
      rw [h7]
      rw [upd_o (by omega), upd_o (by omega), upd_o (by omega), upd_o (by omega), upd_o (by omega), upd_o (by omega), upd_o (by omega), upd_o (by omega), upd_o (by omega)]
      dsimp only
      rw [if_neg (by omega)]
    · show [evc κ _ _ (evN m)] = _
      unfold evc
      rw [h7]
      rw [upd_o (by omega), upd_o (by omega), upd_s, upd_o (by omega), upd_s, upd_s]
      dsimp only
      rw [if_pos rfl]
  rw [e1]
  unfold lmW
  dsimp only
  rw [e3, e4]
  refine List.perm_append_comm.trans ?_
  rw [List.append_assoc, List.append_assoc]
end LW
