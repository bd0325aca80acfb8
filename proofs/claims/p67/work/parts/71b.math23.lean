/-! THE TEXT IS READ: its lines -/
def Z0 (t : Tk) : St := (t, 0, 0)
section LN
variable {b : Nat → Int32} {T sp w R : List Nat} {e : Nat} {t : Tk}
theorem adv_Z {len : Nat} : advS b len (Z0 t) = Z0 (tok b len t.2.2.1) := rfl
theorem num_Z {len lo hi x s e2 : Nat} (h : tok b len t.2.2.1 = (2, s, e2, x)) (h1 : lo ≤ x) (h2 : x ≤ hi) : numS b len lo hi (Z0 t) = (Z0 (2, s, e2, x), x) := by
  unfold numS
  rw [adv_Z, h]
  have hc : chkS lo hi (Z0 (2, s, e2, x)) = Z0 (2, s, e2, x) := by
    exact (if_pos rfl).trans (if_neg (by show ¬ (x < lo ∨ hi < x); omega))
  rw [hc]
  rfl
theorem wrd_Z {len s e2 : Nat} {u : List Nat} (h : tok b len t.2.2.1 = (1, s, e2, 0)) (hw : isW b u (1, s, e2, 0) = true) : wrdS b len u (Z0 t) = Z0 (1, s, e2, 0) := by
  unfold wrdS
  rw [adv_Z, h]
  exact if_pos hw
theorem num_at {lo hi x : Nat} (hb : Bt b T) (hl : Lat T) (ha : At T t.2.2.1 (sp ++ (digs x ++ R))) (hs : sp = [] ∨ sp = [32]) (hx : x < 1000) (hR : Stop isG R) (h1 : lo ≤ x) (h2 : x ≤ hi) : ∃ t2, numS b T.length lo hi (Z0 t) = (Z0 t2, x) ∧ At T t2.2.2.1 R := by
  refine ⟨_, num_Z (tok_num hb hl ha hs hx hR) h1 h2, ?_⟩
  have := ha.step.step
  rw [digs_len] at this
  exact this
theorem wrd_at {u : List Nat} (hb : Bt b T) (hl : Lat T) (ha : At T t.2.2.1 (sp ++ (u ++ R))) (hs : sp = [] ∨ sp = [32]) (hw : ∀ c ∈ u, isL c) (h0 : 0 < u.length) (h8 : u.length ≤ 8) (hR : Stop isL R) : ∃ t2, wrdS b T.length u (Z0 t) = Z0 t2 ∧ At T t2.2.2.1 R := by
  have hul : Lat u := fun c hc => by have := hw c hc; unfold isL at this; omega
  refine ⟨_, wrd_Z (tok_word hb hl ha hs hw h0 h8 hR) ?_, ha.step.step⟩
  rw [isW_at hb hl ha.step u hul]
  exact decide_eq_true rfl
theorem nam_at {u : List Nat} {lo hi x : Nat} (hb : Bt b T) (hl : Lat T) (ha : At T t.2.2.1 (sp ++ (u ++ (32 :: (digs x ++ R))))) (hs : sp = [] ∨ sp = [32]) (hw : ∀ c ∈ u, isL c) (h0 : 0 < u.length) (h8 : u.length ≤ 8) (hx : x < 1000) (hR : Stop isG R) (h1 : lo ≤ x) (h2 : x ≤ hi) : ∃ t2, namS b T.length u lo hi (Z0 t) = (Z0 t2, x) ∧ At T t2.2.2.1 R := by
  obtain ⟨t1, e1, a1⟩ := wrd_at hb hl ha hs hw h0 h8 (fun _ => by show ¬ isL 32; unfold isL; omega)
  unfold namS
  rw [e1]
  exact num_at (sp := [32]) hb hl a1 (Or.inr rfl) hx hR h1 h2
end LN
theorem wd_0 : wd 0 = [109, 101, 109, 111, 114, 121] := rfl
theorem wd_1 : wd 1 = [98, 97, 110, 100] := rfl
theorem wd_2 : wd 2 = [108, 105, 109, 105, 116] := rfl
theorem wd_3 : wd 3 = [112, 111, 108, 105, 99, 121] := rfl
theorem wd_10 : wd 10 = wd 0 ++ [32] := rfl
theorem wd_11 : wd 11 = 32 :: (wd 1 ++ [32]) := rfl
theorem wd_12 : wd 12 = 32 :: (wd 2 ++ [32]) := rfl
theorem wd_13 : wd 13 = 32 :: (wd 3 ++ [32]) := rfl
theorem wd_14 : wd 14 = 59 :: (wd 4 ++ [32]) := rfl
theorem wd_15 : wd 15 = 59 :: wd 8 := rfl
theorem wd_16 : wd 16 = 59 :: wd 9 := rfl
theorem wd_17 : wd 17 = 59 :: (wd 5 ++ [32]) := rfl
theorem wd_18 : wd 18 = 59 :: (wd 6 ++ [32]) := rfl
theorem wd_19 : wd 19 = 59 :: (wd 7 ++ [32]) := rfl
theorem wd_20 : wd 20 = 32 :: digs 7 := rfl
theorem wd_L {i : Nat} (hi : i < 10) : ∀ c ∈ wd i, isL c := by
  have h : ∀ i, i < 10 → ∀ c ∈ wd i, 97 ≤ c ∧ c ≤ 122 := by decide +kernel
  exact h i hi
theorem wd_0lt {i : Nat} (hi : i < 10) : 0 < (wd i).length := by
  have h : ∀ i, i < 10 → 0 < (wd i).length := by decide +kernel
  exact h i hi
theorem wd_ne {i j : Nat} (hi : i < 10) (hj : j < 10) (h : ¬ i = j) : ¬ wd i = wd j := by
  have h2 : ∀ i, i < 10 → ∀ j, j < 10 → ¬ i = j → ¬ wd i = wd j := by decide +kernel
  exact h2 i hi j hj h
/-- behind a line: the end, or the next line -/
def Nxt (R : List Nat) : Prop := R = [] ∨ ∃ R2, R = 59 :: R2
theorem Nxt.G {R : List Nat} (h : Nxt R) : Stop isG R := by
  intro h0
  rcases h with rfl | ⟨R2, rfl⟩
  · exact absurd h0 (by decide)
  · show ¬ isG 59; unfold isG; omega
theorem Nxt.L {R : List Nat} (h : Nxt R) : Stop isL R := by
  intro h0
  rcases h with rfl | ⟨R2, rfl⟩
  · exact absurd h0 (by decide)
  · show ¬ isL 59; unfold isL; omega
theorem stop32 {P : Nat → Prop} {R : List Nat} (h : ¬ P 32) : Stop P (32 :: R) := fun _ => h
theorem G32 : ¬ isG 32 := by unfold isG; omega
theorem L32 : ¬ isL 32 := by unfold isL; omega
/-- the token ahead of R: 0 at the end, else a semicolon -/
def Hd (R : List Nat) (t : Tk) : Prop := (R = [] ∧ t.1 = 0) ∨ (∃ R2, R = 59 :: R2 ∧ t.1 = 3)
theorem adv_nxt {b : Nat → Int32} {T R : List Nat} {t : Tk} (hb : Bt b T) (hl : Lat T) (ha : At T t.2.2.1 R) (hR : Nxt R) : ∃ t2, advS b T.length (Z0 t) = Z0 t2 ∧ Hd R t2 ∧ At T t2.2.2.1 R.tail := by
  rcases hR with rfl | ⟨R2, rfl⟩
  · exact ⟨(0, t.2.2.1, t.2.2.1, 0), by rw [adv_Z, tok_end ha], Or.inl ⟨rfl, rfl⟩, ha⟩
  · refine ⟨(3, t.2.2.1, t.2.2.1 + 1, 0), by rw [adv_Z, tok_semi hb hl ha], Or.inr ⟨R2, rfl, rfl⟩, ?_⟩
    exact At.step (U := [59]) ha
/-- places that owe nothing stay as they are -/
theorem row_no {a b : Nat} {m : Mg} (h : ∀ p, a ≤ p → p ≤ b → owb m p = false) : rowM a b m = m := by
  have := forG_inv (f := fun p y => payO 2 y p) (fun _ y => y = m) (b + 1 - a) a m rfl (fun j y h1 h2 hy => by
    subst hy
    unfold payO
    rw [h j h1 (by omega)]
    rfl)
  exact this
theorem refM_ok {m : Mg} {n f t l : Nat} (hn : m 0 7 = nI n) (h96 : n ≤ 96) (h0 : 0 < l) (hf : f + l ≤ n) (ht : t + l ≤ n) (hL : anyG (lockB m) t l = false) : refM m n (nI f) (nI t) (nI l) = 0 := by
  unfold refM
  rw [isP_n hn h96 (by omega), isP_n hn h96 (by omega), nI_toInt (by omega), nI_toInt (by omega), nI_toInt (by omega), if_neg (by omega), if_pos (by
    simp only [Bool.and_eq_true, decide_eq_true_eq]
    omega)]
  show (if anyG (lockB m) (t : Int).toNat (l : Int).toNat then nI 3 else nI 0) = 0
  rw [Int.toNat_natCast, Int.toNat_natCast, hL]
  rfl
theorem whenS_n {p : Bool} {c : Nat} {st : St} (h : p = false) : whenS p c st = st := by rw [h]; rfl
section ANY
variable {b : Nat → Int32} {T R : List Nat} {n : Nat} {m : Mg} {k : Cnt}
theorem ok_Z {t : Tk} : ok (Z0 t) = true := rfl
/-- put -/
theorem put_at {t : Tk} {q : Q4} (hb : Bt b T) (hl : Lat T) (hq : clOK n q m k) (h01 : q.1 = 0 ∨ q.1 = 1) (hn : n ≤ 14) (ha : At T t.2.2.1 (if q.1 = 0 then 32 :: (digs q.2.1 ++ (32 :: (digs q.2.2.1 ++ R))) else 32 :: (digs q.2.1 ++ (32 :: (digs q.2.2.1 ++ (32 :: (digs (q.2.2.1 / 2) ++ R))))))) (hR : Nxt R) :
    ∃ t2, lnPut b T.length n (Z0 t, m, k) = (Z0 t2, clX n q m, clK q k) ∧ Hd R t2 ∧ At T t2.2.2.1 R.tail := by
  have hp : q.2.1 < n ∧ q.2.2.1 < 256 ∧ k.1 < 3 ∧ k.2.2.1 = 0 := by
    rcases hq with ⟨z, q1, q2, q3, q4, q5, q6⟩ | ⟨z, q1, q2, q3, q4, q5, q6⟩ | ⟨z, -⟩ | ⟨z, -⟩ | ⟨z, -⟩ | ⟨z, -⟩ | ⟨z, -⟩
    · exact ⟨q1, q2, q3, q5⟩
    · exact ⟨by omega, q2, q3, q5⟩
    all_goals omega
  obtain ⟨p1, p2, p3, p4⟩ := hp
  have e0 : (if 0 < k.2.2.1 then failS 1 (Z0 t) else whenS (decide (20 < k.1 + 1)) 4 (Z0 t)) = Z0 t := by
    rw [if_neg (by omega), whenS_n (decide_eq_false (by omega))]
  have hd : 32 :: (digs q.2.1 ++ (32 :: (digs q.2.2.1 ++ (if q.1 = 0 then R else 32 :: (digs (q.2.2.1 / 2) ++ R))))) = (if q.1 = 0 then 32 :: (digs q.2.1 ++ (32 :: (digs q.2.2.1 ++ R))) else 32 :: (digs q.2.1 ++ (32 :: (digs q.2.2.1 ++ (32 :: (digs (q.2.2.1 / 2) ++ R)))))) := by
    by_cases z : q.1 = 0
    · rw [if_pos z, if_pos z]
    · rw [if_neg z, if_neg z]
  rw [← hd] at ha
  obtain ⟨t1, e1, a1⟩ := num_at (lo := 0) (hi := n - 1) (sp := [32]) hb hl ha (Or.inr rfl) (by omega) (stop32 G32) (Nat.zero_le _) (by omega)
  have hS2 : Stop isG (if q.1 = 0 then R else 32 :: (digs (q.2.2.1 / 2) ++ R)) := by
    by_cases z : q.1 = 0
    · rw [if_pos z]; exact hR.G
    · rw [if_neg z]; exact stop32 G32
  obtain ⟨t2, e2, a2⟩ := num_at (lo := 0) (hi := 255) (sp := [32]) hb hl a1 (Or.inr rfl) (by omega) hS2 (Nat.zero_le _) (by omega)
  have f1 : put1 b T.length n (Z0 t) k = (Z0 t1, q.2.1) := by unfold put1; rw [e0, e1]
  have f2 : put2 b T.length n (Z0 t) k = (Z0 t2, q.2.2.1) := by unfold put2; rw [f1]; exact e2
  have g1 : ∀ (p v : Nat) (t : Tk) (m : Mg), p < n → putS n p v (Z0 t) m = (Z0 t, byteM m p (nI v)) := fun p v t m h => by
    unfold putS
    rw [whenS_n (by rw [decide_eq_true h]; rfl), if_pos ok_Z]
  have f3 : put3 b T.length n (Z0 t) m k = (Z0 t2, byteM m q.2.1 (nI q.2.2.1)) := by
    unfold put3
    rw [f1, f2]
    exact g1 _ _ _ _ p1
  have hK : clK q k = (k.1 + 1, k.2) := if_pos (by omega)
  rcases h01 with z | z
  · rw [if_pos z] at a2
    obtain ⟨t3, e3, h3, a3⟩ := adv_nxt hb hl a2 hR
    have hX : clX n q m = byteM m q.2.1 (nI q.2.2.1) := if_pos z
    have f4 : put4 b T.length n (Z0 t) m k = (Z0 t3, byteM m q.2.1 (nI q.2.2.1)) := by
      unfold put4
      rw [f1, f3]
      dsimp only
      rw [e3]
      unfold putF
      rw [if_neg (by
        have : ¬ t3.1 = 2 := by rcases h3 with ⟨-, h⟩ | ⟨_, -, h⟩ <;> omega
        simp [Z0, this])]
    refine ⟨t3, ?_, h3, a3⟩
    unfold lnPut
    dsimp only
    rw [f4, hX, hK]
  · rw [if_neg (by omega)] at a2
    have q1 : q.2.1 + 1 < n := by
      rcases hq with ⟨y, -⟩ | ⟨y, q1, -⟩ | ⟨y, -⟩ | ⟨y, -⟩ | ⟨y, -⟩ | ⟨y, -⟩ | ⟨y, -⟩
      · omega
      · exact q1
      all_goals omega
    have hk3 := tok_num (sp := [32]) hb hl a2 (Or.inr rfl) (by omega) hR.G
    have a3 := (At.step (U := [32]) a2).step
    rw [digs_len] at a3
    obtain ⟨tt, htt⟩ : ∃ tt : Tk, tt = (2, t2.2.2.1 + [32].length, t2.2.2.1 + [32].length + dig (q.2.2.1 / 2), q.2.2.1 / 2) := ⟨_, rfl⟩
    have v1 : tt.1 = 2 := by rw [htt]
    have v4 : tt.2.2.2 = q.2.2.1 / 2 := by rw [htt]
    have a3 : At T tt.2.2.1 R := by rw [htt]; exact a3
    rw [← htt] at hk3
    obtain ⟨t4, e4, h4, a4⟩ := adv_nxt (t := tt) hb hl a3 hR
    have hX : clX n q m = byteM (byteM m q.2.1 (nI q.2.2.1)) (q.2.1 + 1) (nI (q.2.2.1 / 2)) := by unfold clX; rw [if_neg (by omega), if_pos z]
    have w3 : putS n (q.2.1 + 1) (Z0 tt).1.2.2.2 (whenS (decide (255 < (Z0 tt).1.2.2.2)) 2 (Z0 tt)) (byteM m q.2.1 (nI q.2.2.1)) = (Z0 tt, byteM (byteM m q.2.1 (nI q.2.2.1)) (q.2.1 + 1) (nI (q.2.2.1 / 2))) := by
      show putS n (q.2.1 + 1) tt.2.2.2 (whenS (decide (255 < tt.2.2.2)) 2 (Z0 tt)) (byteM m q.2.1 (nI q.2.2.1)) = _
      rw [v4, whenS_n (decide_eq_false (by omega))]
      exact g1 _ _ _ _ q1
    have f4 : put4 b T.length n (Z0 t) m k = (Z0 t4, byteM (byteM m q.2.1 (nI q.2.2.1)) (q.2.1 + 1) (nI (q.2.2.1 / 2))) := by
      unfold put4
      rw [f1, f3]
      dsimp only
      rw [adv_Z, hk3]
      show putF b T.length n q.2.1 (698 + 1) 1 (Z0 tt) (byteM m q.2.1 (nI q.2.2.1)) = _
      rw [putF_t (by show (true && decide (tt.1 = 2)) = true; rw [v1]; rfl), w3]
      dsimp only
      rw [e4]
      show putF b T.length n q.2.1 (697 + 1) 2 (Z0 t4) _ = _
      rw [putF_e (by
        have : ¬ t4.1 = 2 := by rcases h4 with ⟨-, h⟩ | ⟨_, -, h⟩ <;> omega
        show (true && decide (t4.1 = 2)) = false
        rw [decide_eq_false this]
        rfl)]
    refine ⟨t4, ?_, h4, a4⟩
    unfold lnPut
    dsimp only
    rw [f4, hX, hK]
end ANY
