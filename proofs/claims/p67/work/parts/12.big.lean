/-! a world as a segment of another -/
def Seg {σ τ : Type} (Wd : σ → va_W) (Wd2 : τ → va_W) (rd : σ → τ) (wr : σ → τ → σ) (b : Nat) : Prop :=
  ∃ pre post : σ → va_W, (∀ g, Wd g = pre g ++ Wd2 (rd g) ++ post g) ∧ (∀ g, (pre g).length = b) ∧ ∀ g u, Wd (wr g u) = pre g ++ Wd2 u ++ post g
section SEG
variable {σ τ υ : Type} {Wd : σ → va_W} {Wd2 : τ → va_W} {Wd3 : υ → va_W} {rd : σ → τ} {wr : σ → τ → σ} {rd2 : τ → υ} {wr2 : τ → υ → τ} {b b2 : Nat} {κ : Kp}
theorem Seg.trans (S1 : Seg Wd Wd2 rd wr b) (S2 : Seg Wd2 Wd3 rd2 wr2 b2) : Seg Wd Wd3 (fun g => rd2 (rd g)) (fun g u => wr g (wr2 (rd g) u)) (b + b2) := by
  obtain ⟨p1, q1, a1, a2, a3⟩ := S1
  obtain ⟨p2, q2, b1, b2, b3⟩ := S2
  refine ⟨fun g => p1 g ++ p2 (rd g), fun g => q2 (rd g) ++ q1 g, fun g => ?_, fun g => ?_, fun g u => ?_⟩
  · rw [a1, b1]; simp [List.append_assoc]
  · rw [List.length_append, a2, b2]
  · rw [a3, b3]; simp [List.append_assoc]
theorem Seg.get (S1 : Seg Wd Wd2 rd wr b) {g : σ} {c : Nat} {q : Nat × va_E} (h : (Wd2 (rd g))[c]? = some q) : (Wd g)[b + c]? = some q := by
  obtain ⟨p1, q1, a1, a2, a3⟩ := S1
  have hc : c < (Wd2 (rd g)).length := (List.getElem?_eq_some_iff.mp h).1
  rw [a1, List.append_assoc, List.getElem?_append_right (by rw [a2]; omega), a2, show b + c - b = c by omega, List.getElem?_append_left hc]
  exact h
theorem Seg.set (S1 : Seg Wd Wd2 rd wr b) {g : σ} {c : Nat} {q : Nat × va_E} {u : τ} (hc : c < (Wd2 (rd g)).length) (h : (Wd2 (rd g)).set c q = Wd2 u) : (Wd g).set (b + c) q = Wd (wr g u) := by
  obtain ⟨p1, q1, a1, a2, a3⟩ := S1
  rw [a1, a3, List.append_assoc, List.set_append, if_neg (by rw [a2]; omega), a2, show b + c - b = c by omega, List.set_append, if_pos hc, h, List.append_assoc]
theorem OI.lift {c a ci k : Nat} {get : τ → Int32} {set : τ → Int32 → τ} (S1 : Seg Wd Wd2 rd wr b) (O : OI Wd2 c a ci k get set) : OI Wd (b + c) a ci k (fun g => get (rd g)) (fun g x => wr g (set (rd g) x)) := by
  intro g
  obtain ⟨fs, o1, o2, o3⟩ := O (rd g)
  exact ⟨fs, S1.get o1, o2, fun x => S1.set (List.getElem?_eq_some_iff.mp o1).1 (o3 x)⟩
theorem OR.lift {c a ci k r : Nat} (S1 : Seg Wd Wd2 rd wr b) (O : OR Wd2 c a ci k r) : OR Wd (b + c) a ci k r := by
  intro g
  obtain ⟨fs, o1, o2⟩ := O (rd g)
  exact ⟨fs, S1.get o1, o2⟩
theorem AI.lift {c a n : Nat} {get : τ → Nat → Int32} {set : τ → (Nat → Int32) → τ} (S1 : Seg Wd Wd2 rd wr b) (O : AI κ Wd2 c a n get set) : AI κ Wd (b + c) a n (fun g => get (rd g)) (fun g f => wr g (set (rd g) f)) := fun g =>
  ⟨S1.get (O (rd g)).1, fun f => S1.set (List.getElem?_eq_some_iff.mp (O (rd g)).1).1 ((O (rd g)).2 f)⟩
theorem AZ.lift {c a n : Nat} {get : τ → Nat → Int32} {set : τ → (Nat → Int32) → τ} (S1 : Seg Wd Wd2 rd wr b) (O : AZ κ Wd2 c a n get set) : AZ κ Wd (b + c) a n (fun g => get (rd g)) (fun g f => wr g (set (rd g) f)) := fun g =>
  ⟨S1.get (O (rd g)).1, fun f => S1.set (List.getElem?_eq_some_iff.mp (O (rd g)).1).1 ((O (rd g)).2 f)⟩
theorem AJ.lift {c a n : Nat} {get : τ → Nat → Int64} {set : τ → (Nat → Int64) → τ} (S1 : Seg Wd Wd2 rd wr b) (O : AJ κ Wd2 c a n get set) : AJ κ Wd (b + c) a n (fun g => get (rd g)) (fun g f => wr g (set (rd g) f)) := fun g =>
  ⟨S1.get (O (rd g)).1, fun f => S1.set (List.getElem?_eq_some_iff.mp (O (rd g)).1).1 ((O (rd g)).2 f)⟩
theorem AQ.lift {c a n : Nat} {f : Nat → Option Nat} (S1 : Seg Wd Wd2 rd wr b) (O : AQ κ Wd2 c a n f) : AQ κ Wd (b + c) a n f := fun g => S1.get (O (rd g))
theorem putL_seg : ∀ (w1 mid pre post : va_W), mid.length = w1.length → putL (List.range' pre.length w1.length) w1 (pre ++ mid ++ post) = pre ++ w1 ++ post
  | [], mid, pre, post, h => by
    have : mid = [] := List.eq_nil_of_length_eq_zero h
    subst this
    unfold putL
    rfl
  | c :: cs, [], pre, post, h => by simp at h
  | c :: cs, d :: mid, pre, post, h => by
    have ih := putL_seg cs mid (pre ++ [c]) post (by simpa using h)
    have e1 : List.range' pre.length (c :: cs).length = pre.length :: List.range' (pre ++ [c]).length cs.length := by
      simp [List.range'_succ]
    rw [e1]
    show putL (List.range' (pre ++ [c]).length cs.length) cs ((pre ++ (d :: mid) ++ post).set pre.length c) = _
    have e2 : (pre ++ (d :: mid) ++ post).set pre.length c = (pre ++ [c]) ++ mid ++ post := by
      simp [List.set_append]
    rw [e2, ih]
    simp
theorem Seg.emb {n : Nat} (S1 : Seg Wd Wd2 rd wr b) (F : FixW Wd) (hn : ∀ u, (Wd2 u).length = n) : Emb Wd Wd2 rd wr (List.range' b n) := by
  have S0 := S1
  obtain ⟨p1, q1, a1, a2, a3⟩ := S1
  refine ⟨F, List.nodup_range', fun g => ?_, fun g u => ⟨by rw [List.length_range', hn], ?_⟩⟩
  · apply List.ext_getElem?
    intro k
    rw [List.getElem?_map, List.getElem?_map]
    by_cases hk : k < n
    · have h1 : (List.range' b n)[k]? = some (b + k) := by simp [List.getElem?_range', hk]
      have h2 : ∃ q, (Wd2 (rd g))[k]? = some q := ⟨_, List.getElem?_eq_getElem (by rw [hn]; exact hk)⟩
      obtain ⟨q, hq⟩ := h2
      rw [h1, hq]
      simp [S0.get hq]
    · rw [List.getElem?_eq_none (by rw [List.length_range']; omega), List.getElem?_eq_none (by rw [hn]; omega)]
      rfl
  · have := putL_seg (Wd2 u) (Wd2 (rd g)) (p1 g) (q1 g) (by rw [hn, hn])
    rw [a2, hn] at this
    rw [a3, a1 g, this]
theorem putL_app : ∀ (is js : List Nat) (cs ds ws : va_W), is.length = cs.length → putL (is ++ js) (cs ++ ds) ws = putL js ds (putL is cs ws)
  | [], js, [], ds, ws, _ => by simp [putL]
  | [], _, _ :: _, _, _, h => by simp at h
  | _ :: _, _, [], _, _, h => by simp at h
  | i :: is, js, c :: cs, ds, ws, h => by
    show putL (is ++ js) (cs ++ ds) (ws.set i c) = putL js ds (putL is cs (ws.set i c))
    exact putL_app is js cs ds _ (by simpa using h)
theorem Emb.pair {rd3 : σ → υ} {wr3 : σ → υ → σ} {is js : List Nat} (E1 : Emb Wd Wd2 rd wr is) (E2 : Emb Wd Wd3 rd3 wr3 js) (hd : ∀ i ∈ is, i ∉ js) {Wd4 : τ × υ → va_W} (h4 : ∀ q, Wd4 q = Wd2 q.1 ++ Wd3 q.2) : Emb Wd Wd4 (fun g => (rd g, rd3 g)) (fun g q => wr3 (wr g q.1) q.2) (is ++ js) := by
  refine ⟨E1.1, List.nodup_append.mpr ⟨E1.2.1, E2.2.1, fun a ha b hb e => hd a ha (by rw [e]; exact hb)⟩, fun g => ?_, fun g q => ⟨?_, ?_⟩⟩
  · rw [h4, List.map_append, List.map_append, E1.2.2.1, E2.2.2.1]
  · rw [h4, List.length_append, List.length_append, (E1.2.2.2 g q.1).1, (E2.2.2.2 g q.2).1]
  · rw [h4, putL_app _ _ _ _ _ (E1.2.2.2 g q.1).1, ← (E1.2.2.2 g q.1).2, ← (E2.2.2.2 _ q.2).2]
end SEG
section F_big
variable {κ : Kp} {h : Nat → Nat}
theorem len_mS (u : Mg) : (mS κ h u).length = 8 := rfl
theorem len_eS (u : Eg) : (eS κ h u).length = 12 := rfl
theorem len_tS (u : G) : (tS κ h u).length = 2 := rfl
theorem len_rS (u : Rg) : (rS κ h u).length = 14 := rfl
theorem len_hS (u : Hg) : (hS κ h u).length = 66 := rfl
theorem len_mmS (u : Mg × Mg) : (mmS κ h u).length = 16 := rfl
theorem seg_c_live : Seg (cS κ h) (eS κ (sh 1 h)) (fun g => g.1) (fun g u => (u, g.2)) 1 := ⟨fun g => [(h 0, .inr (5, [.ref (h 1), .ref (h 13), .ref (h 25), .ref (h 39), .ref (h 105), .ref (h 122)]))], fun g => eS κ (sh 13 h) g.2.1 ++ rS κ (sh 25 h) g.2.2.1 ++ hS κ (sh 39 h) g.2.2.2.1 ++ [cQ κ (h 105) 2 (skq h)] ++ mS κ (sh 106 h) (g.2.2.2.2.1 0) ++ mS κ (sh 114 h) (g.2.2.2.2.1 1) ++ tS κ (sh 122 h) g.2.2.2.2.2, fun g => by simp [cS, List.append_assoc], fun g => by simp [len_mS, len_eS, len_rS, len_hS, len_tS], fun g u => by simp [cS, fU, List.append_assoc]⟩
theorem seg_c_trial : Seg (cS κ h) (eS κ (sh 13 h)) (fun g => g.2.1) (fun g u => (g.1, u, g.2.2)) 13 := ⟨fun g => [(h 0, .inr (5, [.ref (h 1), .ref (h 13), .ref (h 25), .ref (h 39), .ref (h 105), .ref (h 122)]))] ++ eS κ (sh 1 h) g.1, fun g => rS κ (sh 25 h) g.2.2.1 ++ hS κ (sh 39 h) g.2.2.2.1 ++ [cQ κ (h 105) 2 (skq h)] ++ mS κ (sh 106 h) (g.2.2.2.2.1 0) ++ mS κ (sh 114 h) (g.2.2.2.2.1 1) ++ tS κ (sh 122 h) g.2.2.2.2.2, fun g => by simp [cS, List.append_assoc], fun g => by simp [len_mS, len_eS, len_rS, len_hS, len_tS], fun g u => by simp [cS, fU, List.append_assoc]⟩
theorem seg_c_r : Seg (cS κ h) (rS κ (sh 25 h)) (fun g => g.2.2.1) (fun g u => (g.1, g.2.1, u, g.2.2.2)) 25 := ⟨fun g => [(h 0, .inr (5, [.ref (h 1), .ref (h 13), .ref (h 25), .ref (h 39), .ref (h 105), .ref (h 122)]))] ++ eS κ (sh 1 h) g.1 ++ eS κ (sh 13 h) g.2.1, fun g => hS κ (sh 39 h) g.2.2.2.1 ++ [cQ κ (h 105) 2 (skq h)] ++ mS κ (sh 106 h) (g.2.2.2.2.1 0) ++ mS κ (sh 114 h) (g.2.2.2.2.1 1) ++ tS κ (sh 122 h) g.2.2.2.2.2, fun g => by simp [cS, List.append_assoc], fun g => by simp [len_mS, len_eS, len_rS, len_hS, len_tS], fun g u => by simp [cS, fU, List.append_assoc]⟩
theorem seg_c_h : Seg (cS κ h) (hS κ (sh 39 h)) (fun g => g.2.2.2.1) (fun g u => (g.1, g.2.1, g.2.2.1, u, g.2.2.2.2)) 39 := ⟨fun g => [(h 0, .inr (5, [.ref (h 1), .ref (h 13), .ref (h 25), .ref (h 39), .ref (h 105), .ref (h 122)]))] ++ eS κ (sh 1 h) g.1 ++ eS κ (sh 13 h) g.2.1 ++ rS κ (sh 25 h) g.2.2.1, fun g => [cQ κ (h 105) 2 (skq h)] ++ mS κ (sh 106 h) (g.2.2.2.2.1 0) ++ mS κ (sh 114 h) (g.2.2.2.2.1 1) ++ tS κ (sh 122 h) g.2.2.2.2.2, fun g => by simp [cS, List.append_assoc], fun g => by simp [len_mS, len_eS, len_rS, len_hS, len_tS], fun g u => by simp [cS, fU, List.append_assoc]⟩
theorem seg_c_slot0 : Seg (cS κ h) (mS κ (sh 106 h)) (fun g => g.2.2.2.2.1 0) (fun g u => (g.1, g.2.1, g.2.2.1, g.2.2.2.1, fU g.2.2.2.2.1 0 u, g.2.2.2.2.2)) 106 := ⟨fun g => [(h 0, .inr (5, [.ref (h 1), .ref (h 13), .ref (h 25), .ref (h 39), .ref (h 105), .ref (h 122)]))] ++ eS κ (sh 1 h) g.1 ++ eS κ (sh 13 h) g.2.1 ++ rS κ (sh 25 h) g.2.2.1 ++ hS κ (sh 39 h) g.2.2.2.1 ++ [cQ κ (h 105) 2 (skq h)], fun g => mS κ (sh 114 h) (g.2.2.2.2.1 1) ++ tS κ (sh 122 h) g.2.2.2.2.2, fun g => by simp [cS, List.append_assoc], fun g => by simp [len_mS, len_eS, len_rS, len_hS, len_tS], fun g u => by simp [cS, fU, List.append_assoc]⟩
theorem seg_c_slot1 : Seg (cS κ h) (mS κ (sh 114 h)) (fun g => g.2.2.2.2.1 1) (fun g u => (g.1, g.2.1, g.2.2.1, g.2.2.2.1, fU g.2.2.2.2.1 1 u, g.2.2.2.2.2)) 114 := ⟨fun g => [(h 0, .inr (5, [.ref (h 1), .ref (h 13), .ref (h 25), .ref (h 39), .ref (h 105), .ref (h 122)]))] ++ eS κ (sh 1 h) g.1 ++ eS κ (sh 13 h) g.2.1 ++ rS κ (sh 25 h) g.2.2.1 ++ hS κ (sh 39 h) g.2.2.2.1 ++ [cQ κ (h 105) 2 (skq h)] ++ mS κ (sh 106 h) (g.2.2.2.2.1 0), fun g => tS κ (sh 122 h) g.2.2.2.2.2, fun g => by simp [cS, List.append_assoc], fun g => by simp [len_mS, len_eS, len_rS, len_hS, len_tS], fun g u => by simp [cS, fU, List.append_assoc]⟩
theorem seg_c_t : Seg (cS κ h) (tS κ (sh 122 h)) (fun g => g.2.2.2.2.2) (fun g u => (g.1, g.2.1, g.2.2.1, g.2.2.2.1, g.2.2.2.2.1, u)) 122 := ⟨fun g => [(h 0, .inr (5, [.ref (h 1), .ref (h 13), .ref (h 25), .ref (h 39), .ref (h 105), .ref (h 122)]))] ++ eS κ (sh 1 h) g.1 ++ eS κ (sh 13 h) g.2.1 ++ rS κ (sh 25 h) g.2.2.1 ++ hS κ (sh 39 h) g.2.2.2.1 ++ [cQ κ (h 105) 2 (skq h)] ++ mS κ (sh 106 h) (g.2.2.2.2.1 0) ++ mS κ (sh 114 h) (g.2.2.2.2.1 1), fun g => [], fun g => by simp [cS, List.append_assoc], fun g => by simp [len_mS, len_eS, len_rS, len_hS, len_tS], fun g u => by simp [cS, fU, List.append_assoc]⟩
theorem seg_h_0 : Seg (hS κ h) (mS κ (sh 2 h)) (fun g => g.2 0) (fun g u => (g.1, fU g.2 0 u)) 2 := ⟨fun g => [(h 0, .inr (1, [.ref (h 1), .int (g.1 0 1), .int (g.1 0 2)])), cQ κ (h 1) 8 (hkq h)], fun g => mS κ (sh 10 h) (g.2 1) ++ mS κ (sh 18 h) (g.2 2) ++ mS κ (sh 26 h) (g.2 3) ++ mS κ (sh 34 h) (g.2 4) ++ mS κ (sh 42 h) (g.2 5) ++ mS κ (sh 50 h) (g.2 6) ++ mS κ (sh 58 h) (g.2 7), fun g => by simp [hS, List.append_assoc], fun g => by simp [len_mS, len_eS, len_rS, len_hS, len_tS], fun g u => by simp [hS, fU, List.append_assoc]⟩
theorem seg_h_1 : Seg (hS κ h) (mS κ (sh 10 h)) (fun g => g.2 1) (fun g u => (g.1, fU g.2 1 u)) 10 := ⟨fun g => [(h 0, .inr (1, [.ref (h 1), .int (g.1 0 1), .int (g.1 0 2)])), cQ κ (h 1) 8 (hkq h)] ++ mS κ (sh 2 h) (g.2 0), fun g => mS κ (sh 18 h) (g.2 2) ++ mS κ (sh 26 h) (g.2 3) ++ mS κ (sh 34 h) (g.2 4) ++ mS κ (sh 42 h) (g.2 5) ++ mS κ (sh 50 h) (g.2 6) ++ mS κ (sh 58 h) (g.2 7), fun g => by simp [hS, List.append_assoc], fun g => by simp [len_mS, len_eS, len_rS, len_hS, len_tS], fun g u => by simp [hS, fU, List.append_assoc]⟩
theorem seg_h_2 : Seg (hS κ h) (mS κ (sh 18 h)) (fun g => g.2 2) (fun g u => (g.1, fU g.2 2 u)) 18 := ⟨fun g => [(h 0, .inr (1, [.ref (h 1), .int (g.1 0 1), .int (g.1 0 2)])), cQ κ (h 1) 8 (hkq h)] ++ mS κ (sh 2 h) (g.2 0) ++ mS κ (sh 10 h) (g.2 1), fun g => mS κ (sh 26 h) (g.2 3) ++ mS κ (sh 34 h) (g.2 4) ++ mS κ (sh 42 h) (g.2 5) ++ mS κ (sh 50 h) (g.2 6) ++ mS κ (sh 58 h) (g.2 7), fun g => by simp [hS, List.append_assoc], fun g => by simp [len_mS, len_eS, len_rS, len_hS, len_tS], fun g u => by simp [hS, fU, List.append_assoc]⟩
theorem seg_h_3 : Seg (hS κ h) (mS κ (sh 26 h)) (fun g => g.2 3) (fun g u => (g.1, fU g.2 3 u)) 26 := ⟨fun g => [(h 0, .inr (1, [.ref (h 1), .int (g.1 0 1), .int (g.1 0 2)])), cQ κ (h 1) 8 (hkq h)] ++ mS κ (sh 2 h) (g.2 0) ++ mS κ (sh 10 h) (g.2 1) ++ mS κ (sh 18 h) (g.2 2), fun g => mS κ (sh 34 h) (g.2 4) ++ mS κ (sh 42 h) (g.2 5) ++ mS κ (sh 50 h) (g.2 6) ++ mS κ (sh 58 h) (g.2 7), fun g => by simp [hS, List.append_assoc], fun g => by simp [len_mS, len_eS, len_rS, len_hS, len_tS], fun g u => by simp [hS, fU, List.append_assoc]⟩
theorem seg_h_4 : Seg (hS κ h) (mS κ (sh 34 h)) (fun g => g.2 4) (fun g u => (g.1, fU g.2 4 u)) 34 := ⟨fun g => [(h 0, .inr (1, [.ref (h 1), .int (g.1 0 1), .int (g.1 0 2)])), cQ κ (h 1) 8 (hkq h)] ++ mS κ (sh 2 h) (g.2 0) ++ mS κ (sh 10 h) (g.2 1) ++ mS κ (sh 18 h) (g.2 2) ++ mS κ (sh 26 h) (g.2 3), fun g => mS κ (sh 42 h) (g.2 5) ++ mS κ (sh 50 h) (g.2 6) ++ mS κ (sh 58 h) (g.2 7), fun g => by simp [hS, List.append_assoc], fun g => by simp [len_mS, len_eS, len_rS, len_hS, len_tS], fun g u => by simp [hS, fU, List.append_assoc]⟩
theorem seg_h_5 : Seg (hS κ h) (mS κ (sh 42 h)) (fun g => g.2 5) (fun g u => (g.1, fU g.2 5 u)) 42 := ⟨fun g => [(h 0, .inr (1, [.ref (h 1), .int (g.1 0 1), .int (g.1 0 2)])), cQ κ (h 1) 8 (hkq h)] ++ mS κ (sh 2 h) (g.2 0) ++ mS κ (sh 10 h) (g.2 1) ++ mS κ (sh 18 h) (g.2 2) ++ mS κ (sh 26 h) (g.2 3) ++ mS κ (sh 34 h) (g.2 4), fun g => mS κ (sh 50 h) (g.2 6) ++ mS κ (sh 58 h) (g.2 7), fun g => by simp [hS, List.append_assoc], fun g => by simp [len_mS, len_eS, len_rS, len_hS, len_tS], fun g u => by simp [hS, fU, List.append_assoc]⟩
theorem seg_h_6 : Seg (hS κ h) (mS κ (sh 50 h)) (fun g => g.2 6) (fun g u => (g.1, fU g.2 6 u)) 50 := ⟨fun g => [(h 0, .inr (1, [.ref (h 1), .int (g.1 0 1), .int (g.1 0 2)])), cQ κ (h 1) 8 (hkq h)] ++ mS κ (sh 2 h) (g.2 0) ++ mS κ (sh 10 h) (g.2 1) ++ mS κ (sh 18 h) (g.2 2) ++ mS κ (sh 26 h) (g.2 3) ++ mS κ (sh 34 h) (g.2 4) ++ mS κ (sh 42 h) (g.2 5), fun g => mS κ (sh 58 h) (g.2 7), fun g => by simp [hS, List.append_assoc], fun g => by simp [len_mS, len_eS, len_rS, len_hS, len_tS], fun g u => by simp [hS, fU, List.append_assoc]⟩
theorem seg_h_7 : Seg (hS κ h) (mS κ (sh 58 h)) (fun g => g.2 7) (fun g u => (g.1, fU g.2 7 u)) 58 := ⟨fun g => [(h 0, .inr (1, [.ref (h 1), .int (g.1 0 1), .int (g.1 0 2)])), cQ κ (h 1) 8 (hkq h)] ++ mS κ (sh 2 h) (g.2 0) ++ mS κ (sh 10 h) (g.2 1) ++ mS κ (sh 18 h) (g.2 2) ++ mS κ (sh 26 h) (g.2 3) ++ mS κ (sh 34 h) (g.2 4) ++ mS κ (sh 42 h) (g.2 5) ++ mS κ (sh 50 h) (g.2 6), fun g => [], fun g => by simp [hS, List.append_assoc], fun g => by simp [len_mS, len_eS, len_rS, len_hS, len_tS], fun g u => by simp [hS, fU, List.append_assoc]⟩
theorem seg_hm_h : Seg (hmS κ h) (hS κ h) (fun g => g.1) (fun g u => (u, g.2)) 0 := ⟨fun g => [], fun g => mS κ (sh 66 h) g.2, fun g => by simp [hmS], fun g => rfl, fun g u => by simp [hmS]⟩
theorem seg_hm_m : Seg (hmS κ h) (mS κ (sh 66 h)) (fun g => g.2) (fun g u => (g.1, u)) 66 := ⟨fun g => hS κ h g.1, fun g => [], fun g => by simp [hmS], fun g => len_hS _, fun g u => by simp [hmS]⟩
theorem seg_e_m : Seg (eS κ h) (mS κ (sh 4 h)) (fun g => g.2) (fun g u => (g.1, u)) 4 := ⟨fun g => [(h 0, .inr (0, [.ref (h 4), .ref (h 1), .ref (h 2), .ref (h 3)])), cZ κ (h 1) 96 (g.1 1), cI κ (h 2) 96 (g.1 2), cI κ (h 3) 96 (g.1 3)], fun g => [], fun g => by simp [eS], fun g => rfl, fun g u => by simp [eS]⟩
theorem seg_r_e : Seg (rS κ h) (eS κ (sh 1 h)) (fun g => g.2) (fun g u => (g.1, u)) 1 := ⟨fun g => [(h 0, .inr (3, [.ref (h 1), .ref (h 13), .int (g.1 0 2), .int (g.1 0 3), .int (g.1 0 4), .int (g.1 0 5), .int (g.1 0 6), .int (g.1 0 7), .int (g.1 0 8), .int (g.1 0 9), .int (g.1 0 10), .int (g.1 0 11), .int (g.1 0 12), .int (g.1 0 13)]))], fun g => [cI κ (h 13) 700 (g.1 13)], fun g => by simp [rS], fun g => rfl, fun g u => by simp [rS]⟩
theorem fix_app {σ : Type} {A B : σ → va_W} (h1 : FixW A) (h2 : FixW B) : FixW (fun g => A g ++ B g) := fun g g2 => by rw [List.map_append, List.map_append, h1 g g2, h2 g g2]
theorem fix_mS2 (u v : Mg) : (mS κ h u).map Prod.fst = (mS κ h v).map Prod.fst := rfl
theorem fix_eS2 (u v : Eg) : (eS κ h u).map Prod.fst = (eS κ h v).map Prod.fst := rfl
theorem fix_rS2 (u v : Rg) : (rS κ h u).map Prod.fst = (rS κ h v).map Prod.fst := rfl
theorem fix_tS2 (u v : G) : (tS κ h u).map Prod.fst = (tS κ h v).map Prod.fst := rfl
theorem fix_hS : FixW (hS κ h) := fun g g2 => by
  simp only [hS, List.map_append]
  rw [fix_mS2 (h := sh 2 h) (g.2 0) (g2.2 0)]
  rw [fix_mS2 (h := sh 10 h) (g.2 1) (g2.2 1)]
  rw [fix_mS2 (h := sh 18 h) (g.2 2) (g2.2 2)]
  rw [fix_mS2 (h := sh 26 h) (g.2 3) (g2.2 3)]
  rw [fix_mS2 (h := sh 34 h) (g.2 4) (g2.2 4)]
  rw [fix_mS2 (h := sh 42 h) (g.2 5) (g2.2 5)]
  rw [fix_mS2 (h := sh 50 h) (g.2 6) (g2.2 6)]
  rw [fix_mS2 (h := sh 58 h) (g.2 7) (g2.2 7)]
  rfl
theorem fix_hmS : FixW (hmS κ h) := fun g g2 => by
  simp only [hmS, List.map_append]
  rw [fix_hS g.1 g2.1, fix_mS2 g.2 g2.2]
theorem fix_cS : FixW (cS κ h) := fun g g2 => by
  simp only [cS, List.map_append]
  rw [fix_eS2 g.1 g2.1, fix_eS2 g.2.1 g2.2.1, fix_rS2 g.2.2.1 g2.2.2.1, fix_hS g.2.2.2.1 g2.2.2.2.1, fix_mS2 (g.2.2.2.2.1 0) (g2.2.2.2.2.1 0), fix_mS2 (g.2.2.2.2.1 1) (g2.2.2.2.2.1 1), fix_tS2 g.2.2.2.2.2 g2.2.2.2.2.2]
theorem seg_c_lm : Seg (cS κ h) (mS κ (sh 5 h)) (fun g => g.1.2) (fun g u => ((g.1.1, u), g.2)) 5 := Seg.trans (seg_c_live (h := h)) (seg_e_m (h := sh 1 h))
theorem seg_c_tm : Seg (cS κ h) (mS κ (sh 17 h)) (fun g => g.2.1.2) (fun g u => (g.1, (g.2.1.1, u), g.2.2)) 17 := Seg.trans (seg_c_trial (h := h)) (seg_e_m (h := sh 13 h))
theorem seg_c_re : Seg (cS κ h) (eS κ (sh 26 h)) (fun g => g.2.2.1.2) (fun g u => (g.1, g.2.1, (g.2.2.1.1, u), g.2.2.2)) 26 := Seg.trans (seg_c_r (h := h)) (seg_r_e (h := sh 25 h))
theorem seg_c_rm : Seg (cS κ h) (mS κ (sh 30 h)) (fun g => g.2.2.1.2.2) (fun g u => (g.1, g.2.1, (g.2.2.1.1, g.2.2.1.2.1, u), g.2.2.2)) 30 := Seg.trans (seg_c_re (h := h)) (seg_e_m (h := sh 26 h))
theorem emb_c_live : Emb (cS κ h) (eS κ (sh 1 h)) (fun g => g.1) (fun g u => (u, g.2)) (List.range' 1 12) := Seg.emb seg_c_live fix_cS len_eS
theorem emb_c_trial : Emb (cS κ h) (eS κ (sh 13 h)) (fun g => g.2.1) (fun g u => (g.1, u, g.2.2)) (List.range' 13 12) := Seg.emb seg_c_trial fix_cS len_eS
theorem emb_c_r : Emb (cS κ h) (rS κ (sh 25 h)) (fun g => g.2.2.1) (fun g u => (g.1, g.2.1, u, g.2.2.2)) (List.range' 25 14) := Seg.emb seg_c_r fix_cS len_rS
theorem emb_c_h : Emb (cS κ h) (hS κ (sh 39 h)) (fun g => g.2.2.2.1) (fun g u => (g.1, g.2.1, g.2.2.1, u, g.2.2.2.2)) (List.range' 39 66) := Seg.emb seg_c_h fix_cS len_hS
theorem emb_c_slot0 : Emb (cS κ h) (mS κ (sh 106 h)) (fun g => g.2.2.2.2.1 0) (fun g u => (g.1, g.2.1, g.2.2.1, g.2.2.2.1, fU g.2.2.2.2.1 0 u, g.2.2.2.2.2)) (List.range' 106 8) := Seg.emb seg_c_slot0 fix_cS len_mS
theorem emb_c_slot1 : Emb (cS κ h) (mS κ (sh 114 h)) (fun g => g.2.2.2.2.1 1) (fun g u => (g.1, g.2.1, g.2.2.1, g.2.2.2.1, fU g.2.2.2.2.1 1 u, g.2.2.2.2.2)) (List.range' 114 8) := Seg.emb seg_c_slot1 fix_cS len_mS
theorem emb_c_t : Emb (cS κ h) (tS κ (sh 122 h)) (fun g => g.2.2.2.2.2) (fun g u => (g.1, g.2.1, g.2.2.1, g.2.2.2.1, g.2.2.2.2.1, u)) (List.range' 122 2) := Seg.emb seg_c_t fix_cS len_tS
theorem emb_c_lm : Emb (cS κ h) (mS κ (sh 5 h)) (fun g => g.1.2) (fun g u => ((g.1.1, u), g.2)) (List.range' 5 8) := Seg.emb seg_c_lm fix_cS len_mS
theorem emb_c_tm : Emb (cS κ h) (mS κ (sh 17 h)) (fun g => g.2.1.2) (fun g u => (g.1, (g.2.1.1, u), g.2.2)) (List.range' 17 8) := Seg.emb seg_c_tm fix_cS len_mS
theorem emb_hmk0 : Emb (hmS κ h) (mS κ (sh 2 h)) (fun g => g.1.2 0) (fun g u => ((g.1.1, fU g.1.2 0 u), g.2)) (List.range' (0 + 2) 8) := Seg.emb (Seg.trans (seg_hm_h (h := h)) (seg_h_0 (h := h))) fix_hmS len_mS
theorem emb_hmk1 : Emb (hmS κ h) (mS κ (sh 10 h)) (fun g => g.1.2 1) (fun g u => ((g.1.1, fU g.1.2 1 u), g.2)) (List.range' (0 + 10) 8) := Seg.emb (Seg.trans (seg_hm_h (h := h)) (seg_h_1 (h := h))) fix_hmS len_mS
theorem emb_hmk2 : Emb (hmS κ h) (mS κ (sh 18 h)) (fun g => g.1.2 2) (fun g u => ((g.1.1, fU g.1.2 2 u), g.2)) (List.range' (0 + 18) 8) := Seg.emb (Seg.trans (seg_hm_h (h := h)) (seg_h_2 (h := h))) fix_hmS len_mS
theorem emb_hmk3 : Emb (hmS κ h) (mS κ (sh 26 h)) (fun g => g.1.2 3) (fun g u => ((g.1.1, fU g.1.2 3 u), g.2)) (List.range' (0 + 26) 8) := Seg.emb (Seg.trans (seg_hm_h (h := h)) (seg_h_3 (h := h))) fix_hmS len_mS
theorem emb_hmk4 : Emb (hmS κ h) (mS κ (sh 34 h)) (fun g => g.1.2 4) (fun g u => ((g.1.1, fU g.1.2 4 u), g.2)) (List.range' (0 + 34) 8) := Seg.emb (Seg.trans (seg_hm_h (h := h)) (seg_h_4 (h := h))) fix_hmS len_mS
theorem emb_hmk5 : Emb (hmS κ h) (mS κ (sh 42 h)) (fun g => g.1.2 5) (fun g u => ((g.1.1, fU g.1.2 5 u), g.2)) (List.range' (0 + 42) 8) := Seg.emb (Seg.trans (seg_hm_h (h := h)) (seg_h_5 (h := h))) fix_hmS len_mS
theorem emb_hmk6 : Emb (hmS κ h) (mS κ (sh 50 h)) (fun g => g.1.2 6) (fun g u => ((g.1.1, fU g.1.2 6 u), g.2)) (List.range' (0 + 50) 8) := Seg.emb (Seg.trans (seg_hm_h (h := h)) (seg_h_6 (h := h))) fix_hmS len_mS
theorem emb_hmk7 : Emb (hmS κ h) (mS κ (sh 58 h)) (fun g => g.1.2 7) (fun g u => ((g.1.1, fU g.1.2 7 u), g.2)) (List.range' (0 + 58) 8) := Seg.emb (Seg.trans (seg_hm_h (h := h)) (seg_h_7 (h := h))) fix_hmS len_mS
theorem emb_hmm : Emb (hmS κ h) (mS κ (sh 66 h)) (fun g => g.2) (fun g u => (g.1, u)) (List.range' 66 8) := Seg.emb seg_hm_m fix_hmS len_mS
theorem emb_crm : Emb (cS κ h) (mS κ (sh 30 h)) (fun g => g.2.2.1.2.2) (fun g u => (g.1, g.2.1, (g.2.2.1.1, g.2.2.1.2.1, u), g.2.2.2)) (List.range' 30 8) := Seg.emb seg_c_rm fix_cS len_mS
theorem mm_at {a b : Nat} (q : Mg × Mg) : mmS κ (h2at a b h) q = mS κ (sh a h) q.1 ++ mS κ (sh b h) q.2 := rfl
theorem hm_at (q : Hg × Mg) : hmS κ (hmat h) q = hS κ (sh 39 h) q.1 ++ mS κ (sh 5 h) q.2 := rfl
theorem emb_hm_r0 : Emb (hmS κ h) (mmS κ (h2at 2 66 h)) (fun g => (g.1.2 0, g.2)) (fun g u => ((g.1.1, fU g.1.2 0 u.1), u.2)) (List.range' (0 + 2) 8 ++ List.range' 66 8) := Emb.pair (emb_hmk0 (h := h)) (emb_hmm (h := h)) (by decide) mm_at
theorem emb_hm_b0 : Emb (hmS κ h) (mmS κ (h2at 66 2 h)) (fun g => (g.2, g.1.2 0)) (fun g u => ((g.1.1, fU g.1.2 0 u.2), u.1)) (List.range' 66 8 ++ List.range' (0 + 2) 8) := Emb.pair (emb_hmm (h := h)) (emb_hmk0 (h := h)) (by decide) mm_at
theorem emb_hm_r1 : Emb (hmS κ h) (mmS κ (h2at 10 66 h)) (fun g => (g.1.2 1, g.2)) (fun g u => ((g.1.1, fU g.1.2 1 u.1), u.2)) (List.range' (0 + 10) 8 ++ List.range' 66 8) := Emb.pair (emb_hmk1 (h := h)) (emb_hmm (h := h)) (by decide) mm_at
theorem emb_hm_b1 : Emb (hmS κ h) (mmS κ (h2at 66 10 h)) (fun g => (g.2, g.1.2 1)) (fun g u => ((g.1.1, fU g.1.2 1 u.2), u.1)) (List.range' 66 8 ++ List.range' (0 + 10) 8) := Emb.pair (emb_hmm (h := h)) (emb_hmk1 (h := h)) (by decide) mm_at
theorem emb_hm_r2 : Emb (hmS κ h) (mmS κ (h2at 18 66 h)) (fun g => (g.1.2 2, g.2)) (fun g u => ((g.1.1, fU g.1.2 2 u.1), u.2)) (List.range' (0 + 18) 8 ++ List.range' 66 8) := Emb.pair (emb_hmk2 (h := h)) (emb_hmm (h := h)) (by decide) mm_at
theorem emb_hm_b2 : Emb (hmS κ h) (mmS κ (h2at 66 18 h)) (fun g => (g.2, g.1.2 2)) (fun g u => ((g.1.1, fU g.1.2 2 u.2), u.1)) (List.range' 66 8 ++ List.range' (0 + 18) 8) := Emb.pair (emb_hmm (h := h)) (emb_hmk2 (h := h)) (by decide) mm_at
theorem emb_hm_r3 : Emb (hmS κ h) (mmS κ (h2at 26 66 h)) (fun g => (g.1.2 3, g.2)) (fun g u => ((g.1.1, fU g.1.2 3 u.1), u.2)) (List.range' (0 + 26) 8 ++ List.range' 66 8) := Emb.pair (emb_hmk3 (h := h)) (emb_hmm (h := h)) (by decide) mm_at
theorem emb_hm_b3 : Emb (hmS κ h) (mmS κ (h2at 66 26 h)) (fun g => (g.2, g.1.2 3)) (fun g u => ((g.1.1, fU g.1.2 3 u.2), u.1)) (List.range' 66 8 ++ List.range' (0 + 26) 8) := Emb.pair (emb_hmm (h := h)) (emb_hmk3 (h := h)) (by decide) mm_at
theorem emb_hm_r4 : Emb (hmS κ h) (mmS κ (h2at 34 66 h)) (fun g => (g.1.2 4, g.2)) (fun g u => ((g.1.1, fU g.1.2 4 u.1), u.2)) (List.range' (0 + 34) 8 ++ List.range' 66 8) := Emb.pair (emb_hmk4 (h := h)) (emb_hmm (h := h)) (by decide) mm_at
theorem emb_hm_b4 : Emb (hmS κ h) (mmS κ (h2at 66 34 h)) (fun g => (g.2, g.1.2 4)) (fun g u => ((g.1.1, fU g.1.2 4 u.2), u.1)) (List.range' 66 8 ++ List.range' (0 + 34) 8) := Emb.pair (emb_hmm (h := h)) (emb_hmk4 (h := h)) (by decide) mm_at
theorem emb_hm_r5 : Emb (hmS κ h) (mmS κ (h2at 42 66 h)) (fun g => (g.1.2 5, g.2)) (fun g u => ((g.1.1, fU g.1.2 5 u.1), u.2)) (List.range' (0 + 42) 8 ++ List.range' 66 8) := Emb.pair (emb_hmk5 (h := h)) (emb_hmm (h := h)) (by decide) mm_at
theorem emb_hm_b5 : Emb (hmS κ h) (mmS κ (h2at 66 42 h)) (fun g => (g.2, g.1.2 5)) (fun g u => ((g.1.1, fU g.1.2 5 u.2), u.1)) (List.range' 66 8 ++ List.range' (0 + 42) 8) := Emb.pair (emb_hmm (h := h)) (emb_hmk5 (h := h)) (by decide) mm_at
theorem emb_hm_r6 : Emb (hmS κ h) (mmS κ (h2at 50 66 h)) (fun g => (g.1.2 6, g.2)) (fun g u => ((g.1.1, fU g.1.2 6 u.1), u.2)) (List.range' (0 + 50) 8 ++ List.range' 66 8) := Emb.pair (emb_hmk6 (h := h)) (emb_hmm (h := h)) (by decide) mm_at
theorem emb_hm_b6 : Emb (hmS κ h) (mmS κ (h2at 66 50 h)) (fun g => (g.2, g.1.2 6)) (fun g u => ((g.1.1, fU g.1.2 6 u.2), u.1)) (List.range' 66 8 ++ List.range' (0 + 50) 8) := Emb.pair (emb_hmm (h := h)) (emb_hmk6 (h := h)) (by decide) mm_at
theorem emb_hm_r7 : Emb (hmS κ h) (mmS κ (h2at 58 66 h)) (fun g => (g.1.2 7, g.2)) (fun g u => ((g.1.1, fU g.1.2 7 u.1), u.2)) (List.range' (0 + 58) 8 ++ List.range' 66 8) := Emb.pair (emb_hmk7 (h := h)) (emb_hmm (h := h)) (by decide) mm_at
theorem emb_hm_b7 : Emb (hmS κ h) (mmS κ (h2at 66 58 h)) (fun g => (g.2, g.1.2 7)) (fun g u => ((g.1.1, fU g.1.2 7 u.2), u.1)) (List.range' 66 8 ++ List.range' (0 + 58) 8) := Emb.pair (emb_hmm (h := h)) (emb_hmk7 (h := h)) (by decide) mm_at
theorem emb_c_hm : Emb (cS κ h) (hmS κ (hmat h)) (fun g => (g.2.2.2.1, g.1.2)) (fun g u => ((g.1.1, u.2), g.2.1, g.2.2.1, u.1, g.2.2.2.2)) (List.range' 39 66 ++ List.range' 5 8) := Emb.pair (emb_c_h (h := h)) (emb_c_lm (h := h)) (by decide) hm_at
theorem emb_c_load : Emb (cS κ h) (mmS κ (h2at 5 30 h)) (fun g => (g.1.2, g.2.2.1.2.2)) (fun g u => ((g.1.1, u.1), g.2.1, (g.2.2.1.1, g.2.2.1.2.1, u.2), g.2.2.2)) (List.range' 5 8 ++ List.range' 30 8) := Emb.pair (emb_c_lm (h := h)) (emb_crm (h := h)) (by decide) mm_at
theorem emb_c_try : Emb (cS κ h) (mmS κ (h2at 17 5 h)) (fun g => (g.2.1.2, g.1.2)) (fun g u => ((g.1.1, u.2), (g.2.1.1, u.1), g.2.2)) (List.range' 17 8 ++ List.range' 5 8) := Emb.pair (emb_c_tm (h := h)) (emb_c_lm (h := h)) (by decide) mm_at
theorem emb_c_save0 : Emb (cS κ h) (mmS κ (h2at 106 5 h)) (fun g => (g.2.2.2.2.1 0, g.1.2)) (fun g u => ((g.1.1, u.2), g.2.1, g.2.2.1, g.2.2.2.1, fU g.2.2.2.2.1 0 u.1, g.2.2.2.2.2)) (List.range' 106 8 ++ List.range' 5 8) := Emb.pair (emb_c_slot0 (h := h)) (emb_c_lm (h := h)) (by decide) mm_at
theorem emb_c_rest0 : Emb (cS κ h) (mmS κ (h2at 5 106 h)) (fun g => (g.1.2, g.2.2.2.2.1 0)) (fun g u => ((g.1.1, u.1), g.2.1, g.2.2.1, g.2.2.2.1, fU g.2.2.2.2.1 0 u.2, g.2.2.2.2.2)) (List.range' 5 8 ++ List.range' 106 8) := Emb.pair (emb_c_lm (h := h)) (emb_c_slot0 (h := h)) (by decide) mm_at
theorem emb_c_save1 : Emb (cS κ h) (mmS κ (h2at 114 5 h)) (fun g => (g.2.2.2.2.1 1, g.1.2)) (fun g u => ((g.1.1, u.2), g.2.1, g.2.2.1, g.2.2.2.1, fU g.2.2.2.2.1 1 u.1, g.2.2.2.2.2)) (List.range' 114 8 ++ List.range' 5 8) := Emb.pair (emb_c_slot1 (h := h)) (emb_c_lm (h := h)) (by decide) mm_at
theorem emb_c_rest1 : Emb (cS κ h) (mmS κ (h2at 5 114 h)) (fun g => (g.1.2, g.2.2.2.2.1 1)) (fun g u => ((g.1.1, u.1), g.2.1, g.2.2.1, g.2.2.2.1, fU g.2.2.2.2.1 1 u.2, g.2.2.2.2.2)) (List.range' 5 8 ++ List.range' 114 8) := Emb.pair (emb_c_lm (h := h)) (emb_c_slot1 (h := h)) (by decide) mm_at
theorem or_cS_0_0 : OR (cS κ h) 0 (h 0) 5 0 (h 1) := fun g => ⟨[.ref (h 1), .ref (h 13), .ref (h 25), .ref (h 39), .ref (h 105), .ref (h 122)], by simp [cS], rfl⟩
theorem or_cS_0_1 : OR (cS κ h) 0 (h 0) 5 1 (h 13) := fun g => ⟨[.ref (h 1), .ref (h 13), .ref (h 25), .ref (h 39), .ref (h 105), .ref (h 122)], by simp [cS], rfl⟩
theorem or_cS_0_2 : OR (cS κ h) 0 (h 0) 5 2 (h 25) := fun g => ⟨[.ref (h 1), .ref (h 13), .ref (h 25), .ref (h 39), .ref (h 105), .ref (h 122)], by simp [cS], rfl⟩
theorem or_cS_0_3 : OR (cS κ h) 0 (h 0) 5 3 (h 39) := fun g => ⟨[.ref (h 1), .ref (h 13), .ref (h 25), .ref (h 39), .ref (h 105), .ref (h 122)], by simp [cS], rfl⟩
theorem or_cS_0_4 : OR (cS κ h) 0 (h 0) 5 4 (h 105) := fun g => ⟨[.ref (h 1), .ref (h 13), .ref (h 25), .ref (h 39), .ref (h 105), .ref (h 122)], by simp [cS], rfl⟩
theorem or_cS_0_5 : OR (cS κ h) 0 (h 0) 5 5 (h 122) := fun g => ⟨[.ref (h 1), .ref (h 13), .ref (h 25), .ref (h 39), .ref (h 105), .ref (h 122)], by simp [cS], rfl⟩
theorem or_cS_1_0 : OR (cS κ h) 1 (h 1) 0 0 (h 5) := OR.lift (seg_c_live (h := h)) (or_eS_0_0 (h := sh 1 h))
theorem or_cS_1_1 : OR (cS κ h) 1 (h 1) 0 1 (h 2) := OR.lift (seg_c_live (h := h)) (or_eS_0_1 (h := sh 1 h))
theorem or_cS_1_2 : OR (cS κ h) 1 (h 1) 0 2 (h 3) := OR.lift (seg_c_live (h := h)) (or_eS_0_2 (h := sh 1 h))
theorem or_cS_1_3 : OR (cS κ h) 1 (h 1) 0 3 (h 4) := OR.lift (seg_c_live (h := h)) (or_eS_0_3 (h := sh 1 h))
theorem or_cS_13_0 : OR (cS κ h) 13 (h 13) 0 0 (h 17) := OR.lift (seg_c_trial (h := h)) (or_eS_0_0 (h := sh 13 h))
theorem or_cS_13_1 : OR (cS κ h) 13 (h 13) 0 1 (h 14) := OR.lift (seg_c_trial (h := h)) (or_eS_0_1 (h := sh 13 h))
theorem or_cS_13_2 : OR (cS κ h) 13 (h 13) 0 2 (h 15) := OR.lift (seg_c_trial (h := h)) (or_eS_0_2 (h := sh 13 h))
theorem or_cS_13_3 : OR (cS κ h) 13 (h 13) 0 3 (h 16) := OR.lift (seg_c_trial (h := h)) (or_eS_0_3 (h := sh 13 h))
theorem or_cS_5_0 : OR (cS κ h) 5 (h 5) 2 0 (h 6) := OR.lift (seg_c_lm (h := h)) (or_mS_0_0 (h := sh 5 h))
theorem or_cS_5_1 : OR (cS κ h) 5 (h 5) 2 1 (h 7) := OR.lift (seg_c_lm (h := h)) (or_mS_0_1 (h := sh 5 h))
theorem or_cS_5_2 : OR (cS κ h) 5 (h 5) 2 2 (h 8) := OR.lift (seg_c_lm (h := h)) (or_mS_0_2 (h := sh 5 h))
theorem or_cS_5_3 : OR (cS κ h) 5 (h 5) 2 3 (h 9) := OR.lift (seg_c_lm (h := h)) (or_mS_0_3 (h := sh 5 h))
theorem or_cS_5_4 : OR (cS κ h) 5 (h 5) 2 4 (h 10) := OR.lift (seg_c_lm (h := h)) (or_mS_0_4 (h := sh 5 h))
theorem or_cS_5_5 : OR (cS κ h) 5 (h 5) 2 5 (h 11) := OR.lift (seg_c_lm (h := h)) (or_mS_0_5 (h := sh 5 h))
theorem or_cS_5_6 : OR (cS κ h) 5 (h 5) 2 6 (h 12) := OR.lift (seg_c_lm (h := h)) (or_mS_0_6 (h := sh 5 h))
theorem oi_cS_5_7 : OI (cS κ h) 5 (h 5) 2 7 (fun g => ((g.1).2) 0 7) (fun g x => (((g.1).1, (sG ((g.1).2) 0 (upd (((g.1).2) 0) 7 x))), g.2)) := OI.lift (seg_c_lm (h := h)) (oi_mS_0_7 (h := sh 5 h))
theorem oi_cS_5_8 : OI (cS κ h) 5 (h 5) 2 8 (fun g => ((g.1).2) 0 8) (fun g x => (((g.1).1, (sG ((g.1).2) 0 (upd (((g.1).2) 0) 8 x))), g.2)) := OI.lift (seg_c_lm (h := h)) (oi_mS_0_8 (h := sh 5 h))
theorem ar_cS_6 : AI κ (cS κ h) 6 (h 6) 96 (fun g => ((g.1).2) 1) (fun g f => (((g.1).1, (sG ((g.1).2) 1 f)), g.2)) := AI.lift (seg_c_lm (h := h)) (ar_mS_1 (h := sh 5 h))
theorem ar_cS_7 : AI κ (cS κ h) 7 (h 7) 96 (fun g => ((g.1).2) 2) (fun g f => (((g.1).1, (sG ((g.1).2) 2 f)), g.2)) := AI.lift (seg_c_lm (h := h)) (ar_mS_2 (h := sh 5 h))
theorem ar_cS_8 : AI κ (cS κ h) 8 (h 8) 96 (fun g => ((g.1).2) 3) (fun g f => (((g.1).1, (sG ((g.1).2) 3 f)), g.2)) := AI.lift (seg_c_lm (h := h)) (ar_mS_3 (h := sh 5 h))
theorem ar_cS_9 : AZ κ (cS κ h) 9 (h 9) 96 (fun g => ((g.1).2) 4) (fun g f => (((g.1).1, (sG ((g.1).2) 4 f)), g.2)) := AZ.lift (seg_c_lm (h := h)) (ar_mS_4 (h := sh 5 h))
theorem ar_cS_10 : AI κ (cS κ h) 10 (h 10) 5 (fun g => ((g.1).2) 5) (fun g f => (((g.1).1, (sG ((g.1).2) 5 f)), g.2)) := AI.lift (seg_c_lm (h := h)) (ar_mS_5 (h := sh 5 h))
theorem ar_cS_11 : AI κ (cS κ h) 11 (h 11) 9 (fun g => ((g.1).2) 6) (fun g f => (((g.1).1, (sG ((g.1).2) 6 f)), g.2)) := AI.lift (seg_c_lm (h := h)) (ar_mS_6 (h := sh 5 h))
theorem ar_cS_12 : AI κ (cS κ h) 12 (h 12) 240 (fun g => ((g.1).2) 7) (fun g f => (((g.1).1, (sG ((g.1).2) 7 f)), g.2)) := AI.lift (seg_c_lm (h := h)) (ar_mS_7 (h := sh 5 h))
theorem or_cS_17_0 : OR (cS κ h) 17 (h 17) 2 0 (h 18) := OR.lift (seg_c_tm (h := h)) (or_mS_0_0 (h := sh 17 h))
theorem or_cS_17_1 : OR (cS κ h) 17 (h 17) 2 1 (h 19) := OR.lift (seg_c_tm (h := h)) (or_mS_0_1 (h := sh 17 h))
theorem or_cS_17_2 : OR (cS κ h) 17 (h 17) 2 2 (h 20) := OR.lift (seg_c_tm (h := h)) (or_mS_0_2 (h := sh 17 h))
theorem or_cS_17_3 : OR (cS κ h) 17 (h 17) 2 3 (h 21) := OR.lift (seg_c_tm (h := h)) (or_mS_0_3 (h := sh 17 h))
theorem or_cS_17_4 : OR (cS κ h) 17 (h 17) 2 4 (h 22) := OR.lift (seg_c_tm (h := h)) (or_mS_0_4 (h := sh 17 h))
theorem or_cS_17_5 : OR (cS κ h) 17 (h 17) 2 5 (h 23) := OR.lift (seg_c_tm (h := h)) (or_mS_0_5 (h := sh 17 h))
theorem or_cS_17_6 : OR (cS κ h) 17 (h 17) 2 6 (h 24) := OR.lift (seg_c_tm (h := h)) (or_mS_0_6 (h := sh 17 h))
theorem oi_cS_17_7 : OI (cS κ h) 17 (h 17) 2 7 (fun g => ((g.2.1).2) 0 7) (fun g x => (g.1, ((g.2.1).1, (sG ((g.2.1).2) 0 (upd (((g.2.1).2) 0) 7 x))), g.2.2)) := OI.lift (seg_c_tm (h := h)) (oi_mS_0_7 (h := sh 17 h))
theorem oi_cS_17_8 : OI (cS κ h) 17 (h 17) 2 8 (fun g => ((g.2.1).2) 0 8) (fun g x => (g.1, ((g.2.1).1, (sG ((g.2.1).2) 0 (upd (((g.2.1).2) 0) 8 x))), g.2.2)) := OI.lift (seg_c_tm (h := h)) (oi_mS_0_8 (h := sh 17 h))
theorem ar_cS_18 : AI κ (cS κ h) 18 (h 18) 96 (fun g => ((g.2.1).2) 1) (fun g f => (g.1, ((g.2.1).1, (sG ((g.2.1).2) 1 f)), g.2.2)) := AI.lift (seg_c_tm (h := h)) (ar_mS_1 (h := sh 17 h))
theorem ar_cS_19 : AI κ (cS κ h) 19 (h 19) 96 (fun g => ((g.2.1).2) 2) (fun g f => (g.1, ((g.2.1).1, (sG ((g.2.1).2) 2 f)), g.2.2)) := AI.lift (seg_c_tm (h := h)) (ar_mS_2 (h := sh 17 h))
theorem ar_cS_20 : AI κ (cS κ h) 20 (h 20) 96 (fun g => ((g.2.1).2) 3) (fun g f => (g.1, ((g.2.1).1, (sG ((g.2.1).2) 3 f)), g.2.2)) := AI.lift (seg_c_tm (h := h)) (ar_mS_3 (h := sh 17 h))
theorem ar_cS_21 : AZ κ (cS κ h) 21 (h 21) 96 (fun g => ((g.2.1).2) 4) (fun g f => (g.1, ((g.2.1).1, (sG ((g.2.1).2) 4 f)), g.2.2)) := AZ.lift (seg_c_tm (h := h)) (ar_mS_4 (h := sh 17 h))
theorem ar_cS_22 : AI κ (cS κ h) 22 (h 22) 5 (fun g => ((g.2.1).2) 5) (fun g f => (g.1, ((g.2.1).1, (sG ((g.2.1).2) 5 f)), g.2.2)) := AI.lift (seg_c_tm (h := h)) (ar_mS_5 (h := sh 17 h))
theorem ar_cS_23 : AI κ (cS κ h) 23 (h 23) 9 (fun g => ((g.2.1).2) 6) (fun g f => (g.1, ((g.2.1).1, (sG ((g.2.1).2) 6 f)), g.2.2)) := AI.lift (seg_c_tm (h := h)) (ar_mS_6 (h := sh 17 h))
theorem ar_cS_24 : AI κ (cS κ h) 24 (h 24) 240 (fun g => ((g.2.1).2) 7) (fun g f => (g.1, ((g.2.1).1, (sG ((g.2.1).2) 7 f)), g.2.2)) := AI.lift (seg_c_tm (h := h)) (ar_mS_7 (h := sh 17 h))
theorem or_cS_25_0 : OR (cS κ h) 25 (h 25) 3 0 (h 26) := OR.lift (seg_c_r (h := h)) (or_rS_0_0 (h := sh 25 h))
theorem or_cS_25_1 : OR (cS κ h) 25 (h 25) 3 1 (h 38) := OR.lift (seg_c_r (h := h)) (or_rS_0_1 (h := sh 25 h))
theorem oi_cS_25_2 : OI (cS κ h) 25 (h 25) 3 2 (fun g => ((g.2.2.1).1) 0 2) (fun g x => (g.1, g.2.1, ((sG ((g.2.2.1).1) 0 (upd (((g.2.2.1).1) 0) 2 x)), (g.2.2.1).2), g.2.2.2)) := OI.lift (seg_c_r (h := h)) (oi_rS_0_2 (h := sh 25 h))
theorem oi_cS_25_3 : OI (cS κ h) 25 (h 25) 3 3 (fun g => ((g.2.2.1).1) 0 3) (fun g x => (g.1, g.2.1, ((sG ((g.2.2.1).1) 0 (upd (((g.2.2.1).1) 0) 3 x)), (g.2.2.1).2), g.2.2.2)) := OI.lift (seg_c_r (h := h)) (oi_rS_0_3 (h := sh 25 h))
theorem oi_cS_25_4 : OI (cS κ h) 25 (h 25) 3 4 (fun g => ((g.2.2.1).1) 0 4) (fun g x => (g.1, g.2.1, ((sG ((g.2.2.1).1) 0 (upd (((g.2.2.1).1) 0) 4 x)), (g.2.2.1).2), g.2.2.2)) := OI.lift (seg_c_r (h := h)) (oi_rS_0_4 (h := sh 25 h))
theorem oi_cS_25_5 : OI (cS κ h) 25 (h 25) 3 5 (fun g => ((g.2.2.1).1) 0 5) (fun g x => (g.1, g.2.1, ((sG ((g.2.2.1).1) 0 (upd (((g.2.2.1).1) 0) 5 x)), (g.2.2.1).2), g.2.2.2)) := OI.lift (seg_c_r (h := h)) (oi_rS_0_5 (h := sh 25 h))
theorem oi_cS_25_6 : OI (cS κ h) 25 (h 25) 3 6 (fun g => ((g.2.2.1).1) 0 6) (fun g x => (g.1, g.2.1, ((sG ((g.2.2.1).1) 0 (upd (((g.2.2.1).1) 0) 6 x)), (g.2.2.1).2), g.2.2.2)) := OI.lift (seg_c_r (h := h)) (oi_rS_0_6 (h := sh 25 h))
theorem oi_cS_25_7 : OI (cS κ h) 25 (h 25) 3 7 (fun g => ((g.2.2.1).1) 0 7) (fun g x => (g.1, g.2.1, ((sG ((g.2.2.1).1) 0 (upd (((g.2.2.1).1) 0) 7 x)), (g.2.2.1).2), g.2.2.2)) := OI.lift (seg_c_r (h := h)) (oi_rS_0_7 (h := sh 25 h))
theorem oi_cS_25_8 : OI (cS κ h) 25 (h 25) 3 8 (fun g => ((g.2.2.1).1) 0 8) (fun g x => (g.1, g.2.1, ((sG ((g.2.2.1).1) 0 (upd (((g.2.2.1).1) 0) 8 x)), (g.2.2.1).2), g.2.2.2)) := OI.lift (seg_c_r (h := h)) (oi_rS_0_8 (h := sh 25 h))
theorem oi_cS_25_9 : OI (cS κ h) 25 (h 25) 3 9 (fun g => ((g.2.2.1).1) 0 9) (fun g x => (g.1, g.2.1, ((sG ((g.2.2.1).1) 0 (upd (((g.2.2.1).1) 0) 9 x)), (g.2.2.1).2), g.2.2.2)) := OI.lift (seg_c_r (h := h)) (oi_rS_0_9 (h := sh 25 h))
theorem oi_cS_25_10 : OI (cS κ h) 25 (h 25) 3 10 (fun g => ((g.2.2.1).1) 0 10) (fun g x => (g.1, g.2.1, ((sG ((g.2.2.1).1) 0 (upd (((g.2.2.1).1) 0) 10 x)), (g.2.2.1).2), g.2.2.2)) := OI.lift (seg_c_r (h := h)) (oi_rS_0_10 (h := sh 25 h))
theorem oi_cS_25_11 : OI (cS κ h) 25 (h 25) 3 11 (fun g => ((g.2.2.1).1) 0 11) (fun g x => (g.1, g.2.1, ((sG ((g.2.2.1).1) 0 (upd (((g.2.2.1).1) 0) 11 x)), (g.2.2.1).2), g.2.2.2)) := OI.lift (seg_c_r (h := h)) (oi_rS_0_11 (h := sh 25 h))
theorem oi_cS_25_12 : OI (cS κ h) 25 (h 25) 3 12 (fun g => ((g.2.2.1).1) 0 12) (fun g x => (g.1, g.2.1, ((sG ((g.2.2.1).1) 0 (upd (((g.2.2.1).1) 0) 12 x)), (g.2.2.1).2), g.2.2.2)) := OI.lift (seg_c_r (h := h)) (oi_rS_0_12 (h := sh 25 h))
theorem oi_cS_25_13 : OI (cS κ h) 25 (h 25) 3 13 (fun g => ((g.2.2.1).1) 0 13) (fun g x => (g.1, g.2.1, ((sG ((g.2.2.1).1) 0 (upd (((g.2.2.1).1) 0) 13 x)), (g.2.2.1).2), g.2.2.2)) := OI.lift (seg_c_r (h := h)) (oi_rS_0_13 (h := sh 25 h))
theorem or_cS_26_0 : OR (cS κ h) 26 (h 26) 0 0 (h 30) := OR.lift (seg_c_re (h := h)) (or_eS_0_0 (h := sh 26 h))
theorem or_cS_26_1 : OR (cS κ h) 26 (h 26) 0 1 (h 27) := OR.lift (seg_c_re (h := h)) (or_eS_0_1 (h := sh 26 h))
theorem or_cS_26_2 : OR (cS κ h) 26 (h 26) 0 2 (h 28) := OR.lift (seg_c_re (h := h)) (or_eS_0_2 (h := sh 26 h))
theorem or_cS_26_3 : OR (cS κ h) 26 (h 26) 0 3 (h 29) := OR.lift (seg_c_re (h := h)) (or_eS_0_3 (h := sh 26 h))
theorem or_cS_30_0 : OR (cS κ h) 30 (h 30) 2 0 (h 31) := OR.lift (seg_c_rm (h := h)) (or_mS_0_0 (h := sh 30 h))
theorem or_cS_30_1 : OR (cS κ h) 30 (h 30) 2 1 (h 32) := OR.lift (seg_c_rm (h := h)) (or_mS_0_1 (h := sh 30 h))
theorem or_cS_30_2 : OR (cS κ h) 30 (h 30) 2 2 (h 33) := OR.lift (seg_c_rm (h := h)) (or_mS_0_2 (h := sh 30 h))
theorem or_cS_30_3 : OR (cS κ h) 30 (h 30) 2 3 (h 34) := OR.lift (seg_c_rm (h := h)) (or_mS_0_3 (h := sh 30 h))
theorem or_cS_30_4 : OR (cS κ h) 30 (h 30) 2 4 (h 35) := OR.lift (seg_c_rm (h := h)) (or_mS_0_4 (h := sh 30 h))
theorem or_cS_30_5 : OR (cS κ h) 30 (h 30) 2 5 (h 36) := OR.lift (seg_c_rm (h := h)) (or_mS_0_5 (h := sh 30 h))
theorem or_cS_30_6 : OR (cS κ h) 30 (h 30) 2 6 (h 37) := OR.lift (seg_c_rm (h := h)) (or_mS_0_6 (h := sh 30 h))
theorem oi_cS_30_7 : OI (cS κ h) 30 (h 30) 2 7 (fun g => (((g.2.2.1).2).2) 0 7) (fun g x => (g.1, g.2.1, ((g.2.2.1).1, (((g.2.2.1).2).1, (sG (((g.2.2.1).2).2) 0 (upd ((((g.2.2.1).2).2) 0) 7 x)))), g.2.2.2)) := OI.lift (seg_c_rm (h := h)) (oi_mS_0_7 (h := sh 30 h))
theorem oi_cS_30_8 : OI (cS κ h) 30 (h 30) 2 8 (fun g => (((g.2.2.1).2).2) 0 8) (fun g x => (g.1, g.2.1, ((g.2.2.1).1, (((g.2.2.1).2).1, (sG (((g.2.2.1).2).2) 0 (upd ((((g.2.2.1).2).2) 0) 8 x)))), g.2.2.2)) := OI.lift (seg_c_rm (h := h)) (oi_mS_0_8 (h := sh 30 h))
theorem or_cS_106_0 : OR (cS κ h) 106 (h 106) 2 0 (h 107) := OR.lift (seg_c_slot0 (h := h)) (or_mS_0_0 (h := sh 106 h))
theorem or_cS_106_1 : OR (cS κ h) 106 (h 106) 2 1 (h 108) := OR.lift (seg_c_slot0 (h := h)) (or_mS_0_1 (h := sh 106 h))
theorem or_cS_106_2 : OR (cS κ h) 106 (h 106) 2 2 (h 109) := OR.lift (seg_c_slot0 (h := h)) (or_mS_0_2 (h := sh 106 h))
theorem or_cS_106_3 : OR (cS κ h) 106 (h 106) 2 3 (h 110) := OR.lift (seg_c_slot0 (h := h)) (or_mS_0_3 (h := sh 106 h))
theorem or_cS_106_4 : OR (cS κ h) 106 (h 106) 2 4 (h 111) := OR.lift (seg_c_slot0 (h := h)) (or_mS_0_4 (h := sh 106 h))
theorem or_cS_106_5 : OR (cS κ h) 106 (h 106) 2 5 (h 112) := OR.lift (seg_c_slot0 (h := h)) (or_mS_0_5 (h := sh 106 h))
theorem or_cS_106_6 : OR (cS κ h) 106 (h 106) 2 6 (h 113) := OR.lift (seg_c_slot0 (h := h)) (or_mS_0_6 (h := sh 106 h))
theorem oi_cS_106_7 : OI (cS κ h) 106 (h 106) 2 7 (fun g => (g.2.2.2.2.1 0) 0 7) (fun g x => (g.1, g.2.1, g.2.2.1, g.2.2.2.1, fU g.2.2.2.2.1 0 (sG (g.2.2.2.2.1 0) 0 (upd ((g.2.2.2.2.1 0) 0) 7 x)), g.2.2.2.2.2)) := OI.lift (seg_c_slot0 (h := h)) (oi_mS_0_7 (h := sh 106 h))
theorem oi_cS_106_8 : OI (cS κ h) 106 (h 106) 2 8 (fun g => (g.2.2.2.2.1 0) 0 8) (fun g x => (g.1, g.2.1, g.2.2.1, g.2.2.2.1, fU g.2.2.2.2.1 0 (sG (g.2.2.2.2.1 0) 0 (upd ((g.2.2.2.2.1 0) 0) 8 x)), g.2.2.2.2.2)) := OI.lift (seg_c_slot0 (h := h)) (oi_mS_0_8 (h := sh 106 h))
theorem or_cS_114_0 : OR (cS κ h) 114 (h 114) 2 0 (h 115) := OR.lift (seg_c_slot1 (h := h)) (or_mS_0_0 (h := sh 114 h))
theorem or_cS_114_1 : OR (cS κ h) 114 (h 114) 2 1 (h 116) := OR.lift (seg_c_slot1 (h := h)) (or_mS_0_1 (h := sh 114 h))
theorem or_cS_114_2 : OR (cS κ h) 114 (h 114) 2 2 (h 117) := OR.lift (seg_c_slot1 (h := h)) (or_mS_0_2 (h := sh 114 h))
theorem or_cS_114_3 : OR (cS κ h) 114 (h 114) 2 3 (h 118) := OR.lift (seg_c_slot1 (h := h)) (or_mS_0_3 (h := sh 114 h))
theorem or_cS_114_4 : OR (cS κ h) 114 (h 114) 2 4 (h 119) := OR.lift (seg_c_slot1 (h := h)) (or_mS_0_4 (h := sh 114 h))
theorem or_cS_114_5 : OR (cS κ h) 114 (h 114) 2 5 (h 120) := OR.lift (seg_c_slot1 (h := h)) (or_mS_0_5 (h := sh 114 h))
theorem or_cS_114_6 : OR (cS κ h) 114 (h 114) 2 6 (h 121) := OR.lift (seg_c_slot1 (h := h)) (or_mS_0_6 (h := sh 114 h))
theorem oi_cS_114_7 : OI (cS κ h) 114 (h 114) 2 7 (fun g => (g.2.2.2.2.1 1) 0 7) (fun g x => (g.1, g.2.1, g.2.2.1, g.2.2.2.1, fU g.2.2.2.2.1 1 (sG (g.2.2.2.2.1 1) 0 (upd ((g.2.2.2.2.1 1) 0) 7 x)), g.2.2.2.2.2)) := OI.lift (seg_c_slot1 (h := h)) (oi_mS_0_7 (h := sh 114 h))
theorem oi_cS_114_8 : OI (cS κ h) 114 (h 114) 2 8 (fun g => (g.2.2.2.2.1 1) 0 8) (fun g x => (g.1, g.2.1, g.2.2.1, g.2.2.2.1, fU g.2.2.2.2.1 1 (sG (g.2.2.2.2.1 1) 0 (upd ((g.2.2.2.2.1 1) 0) 8 x)), g.2.2.2.2.2)) := OI.lift (seg_c_slot1 (h := h)) (oi_mS_0_8 (h := sh 114 h))
theorem or_cS_122_0 : OR (cS κ h) 122 (h 122) 4 0 (h 123) := OR.lift (seg_c_t (h := h)) (or_tS_0_0 (h := sh 122 h))
theorem oi_cS_122_1 : OI (cS κ h) 122 (h 122) 4 1 (fun g => (g.2.2.2.2.2) 0 1) (fun g x => (g.1, g.2.1, g.2.2.1, g.2.2.2.1, g.2.2.2.2.1, (sG (g.2.2.2.2.2) 0 (upd ((g.2.2.2.2.2) 0) 1 x)))) := OI.lift (seg_c_t (h := h)) (oi_tS_0_1 (h := sh 122 h))
theorem ar_cS_123 : AI κ (cS κ h) 123 (h 123) 864 (fun g => (g.2.2.2.2.2) 1) (fun g f => (g.1, g.2.1, g.2.2.1, g.2.2.2.1, g.2.2.2.2.1, (sG (g.2.2.2.2.2) 1 f))) := AI.lift (seg_c_t (h := h)) (ar_tS_1 (h := sh 122 h))
theorem oi_hS_0_1 : OI (hS κ h) 0 (h 0) 1 1 (fun g => g.1 0 1) (fun g x => (sG g.1 0 (upd (g.1 0) 1 x), g.2)) := fun g => ⟨[.ref (h 1), .int (g.1 0 1), .int (g.1 0 2)], by simp [hS], rfl, fun x => by simp [hS, sG, upd]⟩
theorem oi_hS_0_2 : OI (hS κ h) 0 (h 0) 1 2 (fun g => g.1 0 2) (fun g x => (sG g.1 0 (upd (g.1 0) 2 x), g.2)) := fun g => ⟨[.ref (h 1), .int (g.1 0 1), .int (g.1 0 2)], by simp [hS], rfl, fun x => by simp [hS, sG, upd]⟩
theorem or_hS_0_0 : OR (hS κ h) 0 (h 0) 1 0 (h 1) := fun g => ⟨[.ref (h 1), .int (g.1 0 1), .int (g.1 0 2)], by simp [hS], rfl⟩
theorem aq_hS_1 : AQ κ (hS κ h) 1 (h 1) 8 (hkq h) := fun g => by simp [hS]
theorem oi_hmS_0_1 : OI (hmS κ h) 0 (h 0) 1 1 (fun g => g.1.1 0 1) (fun g x => ((sG g.1.1 0 (upd (g.1.1 0) 1 x), g.1.2), g.2)) := OI.lift (seg_hm_h (h := h)) (oi_hS_0_1 (h := h))
theorem oi_cS_39_1 : OI (cS κ h) 39 (h 39) 1 1 (fun g => g.2.2.2.1.1 0 1) (fun g x => (g.1, g.2.1, g.2.2.1, (sG g.2.2.2.1.1 0 (upd (g.2.2.2.1.1 0) 1 x), g.2.2.2.1.2), g.2.2.2.2)) := OI.lift (seg_c_h (h := h)) (oi_hS_0_1 (h := sh 39 h))
theorem oi_hmS_0_2 : OI (hmS κ h) 0 (h 0) 1 2 (fun g => g.1.1 0 2) (fun g x => ((sG g.1.1 0 (upd (g.1.1 0) 2 x), g.1.2), g.2)) := OI.lift (seg_hm_h (h := h)) (oi_hS_0_2 (h := h))
theorem oi_cS_39_2 : OI (cS κ h) 39 (h 39) 1 2 (fun g => g.2.2.2.1.1 0 2) (fun g x => (g.1, g.2.1, g.2.2.1, (sG g.2.2.2.1.1 0 (upd (g.2.2.2.1.1 0) 2 x), g.2.2.2.1.2), g.2.2.2.2)) := OI.lift (seg_c_h (h := h)) (oi_hS_0_2 (h := sh 39 h))
theorem or_hmS_0_0 : OR (hmS κ h) 0 (h 0) 1 0 (h 1) := OR.lift (seg_hm_h (h := h)) (or_hS_0_0 (h := h))
theorem aq_hmS_1 : AQ κ (hmS κ h) 1 (h 1) 8 (hkq h) := AQ.lift (seg_hm_h (h := h)) (aq_hS_1 (h := h))
theorem aq_cS_105 : AQ κ (cS κ h) 105 (h 105) 2 (skq h) := fun g => by
  have : cS κ h g = ([(h 0, .inr (5, [.ref (h 1), .ref (h 13), .ref (h 25), .ref (h 39), .ref (h 105), .ref (h 122)]))] ++ eS κ (sh 1 h) g.1 ++ eS κ (sh 13 h) g.2.1 ++ rS κ (sh 25 h) g.2.2.1 ++ hS κ (sh 39 h) g.2.2.2.1) ++ ([cQ κ (h 105) 2 (skq h)] ++ (mS κ (sh 106 h) (g.2.2.2.2.1 0) ++ mS κ (sh 114 h) (g.2.2.2.2.1 1) ++ tS κ (sh 122 h) g.2.2.2.2.2)) := by simp [cS, List.append_assoc]
  rw [this, List.getElem?_append_right (by simp [len_mS, len_eS, len_rS, len_hS, len_tS])]
  simp [len_mS, len_eS, len_rS, len_hS, len_tS]
end F_big
