/-! what a memory keeps -/
def SBo (m : Mg) : Prop := ∃ w lim pol : Nat, m 5 0 = nI w ∧ 1 ≤ w ∧ w ≤ 20 ∧ m 5 1 = nI lim ∧ lim ≤ 96 ∧ m 5 2 = nI pol ∧ pol ≤ 3
def BYo (n : Nat) (m : Mg) : Prop := ∀ p, p < n → ∃ v, v < 256 ∧ m 1 p = nI v
def PRo (n c : Nat) (m : Mg) : Prop := m 6 0 = nI c ∧ ∀ p, p < n → owb m p = true → ∃ v, v < c ∧ m 3 p = nI v
def MI (n c : Nat) (m : Mg) : Prop := IM m n ∧ EvOK m ∧ LK m ∧ 1 ≤ n ∧ SBo m ∧ BYo n m ∧ PRo n c m
theorem val_by {n p : Nat} {m : Mg} (hI : IM m n) (hB : BYo n m) (hp : p < n) : ∃ v, v < 256 ∧ valM m p = nI v := hB _ (root_end hI p hp).1
theorem MI.pd {n c : Nat} {m m2 : Mg} (h : MI n c m) (hp : Pd n m m2) : MI n c m2 := by
  obtain ⟨h1, h2, h3, h4, h5, h6, h7, h8⟩ := h
  obtain ⟨f1, f2, f3, f4, f5⟩ := hp.1
  refine ⟨hp.im h1, f5 h2, by unfold LK; rw [f2]; exact h3, h4, by unfold SBo; rw [f3]; exact h5, fun p hpn => ?_, by rw [f4, h7], fun p hpn ho => ?_⟩
  · rcases hp.2 p hpn with ⟨-, e⟩ | ⟨-, e, -⟩
    · rw [e]; exact val_by h1 h6 hpn
    · rw [e]; exact h6 p hpn
  · rcases hp.2 p hpn with ⟨e, -⟩ | ⟨e, -, e2⟩
    · exact absurd e (owb_t.mp ho)
    · rw [e2]; exact h8 p hpn (by rw [owb_t, ← e]; exact owb_t.mp ho)
theorem MI.dr {n c : Nat} {m m2 : Mg} (h : MI n c m) (hp : Dr n m m2) : MI n c m2 := by
  obtain ⟨h1, h2, h3, h4, h5, h6, h7, h8⟩ := h
  obtain ⟨f1, f2, f3, f4, f5⟩ := hp.1
  refine ⟨hp.im h1, f5 h2, by unfold LK; rw [f2]; exact h3, h4, by unfold SBo; rw [f3]; exact h5, fun p hpn => by rw [hp.2.1]; exact h6 p hpn, by rw [f4, h7], fun p hpn ho => ?_⟩
  rcases hp.2.2 p hpn with e | ⟨e, e2⟩
  · exact absurd e (owb_t.mp ho)
  · rw [e2]; exact h8 p hpn (by rw [owb_t, ← e]; exact owb_t.mp ho)
/-- another memory with the same sources, promises, locks, settings and promises made -/
theorem MI.of {n c : Nat} {m m2 : Mg} (h : MI n c m) (e0 : m2 0 7 = m 0 7) (e2 : m2 2 = m 2) (e3 : m2 3 = m 3) (e4 : LK m2) (e5 : SBo m2) (e6 : m2 6 0 = m 6 0) (ev : EvOK m2) (e1 : BYo n m2) : MI n c m2 := by
  obtain ⟨h1, h2, h3, h4, h5, h6, h7, h8⟩ := h
  refine ⟨IM_of h1 e0 e2, ev, e4, h4, e5, e1, by rw [e6, h7], fun p hp ho => ?_⟩
  rw [owb_of e2] at ho
  rw [e3]
  exact h8 p hp ho
theorem BYo.upd {n p v : Nat} {f : Nat → Int32} (h : ∀ q, q < n → ∃ v, v < 256 ∧ f q = nI v) (hv : v < 256) : ∀ q, q < n → ∃ w, w < 256 ∧ upd f p (nI v) q = nI w := by
  intro q hq
  by_cases e : q = p
  · subst e; exact ⟨v, hv, upd_s⟩
  · rw [upd_o e]; exact h q hq
theorem MI.byte {n c p v : Nat} {m : Mg} (h : MI n c m) (hv : v < 256) : MI n c (byteM m p (nI v)) := MI.of h rfl rfl rfl h.2.2.1 h.2.2.2.2.1 rfl (EvOK.of h.2.1 rfl) (BYo.upd h.2.2.2.2.2.1 hv)
theorem MI.lck {n c p : Nat} {b : Bool} {m : Mg} (h : MI n c m) : MI n c (lckM m p (bI b)) := by
  refine MI.of h rfl rfl rfl (fun q hq => ?_) h.2.2.2.2.1 rfl (EvOK.of h.2.1 rfl) h.2.2.2.2.2.1
  show ∃ b2 : Bool, upd (m 4) p (bI b) q = bI b2
  by_cases e : q = p
  · subst e; exact ⟨b, upd_s⟩
  · rw [upd_o e]; exact h.2.2.1 q hq
theorem MI_setB {n c v a : Nat} {m : Mg} (k : Nat) (h : MI n c m) (hv : v < 256) : MI n c (setB (nI v) a k m) := by
  have := forG_inv (f := fun p y => byteM y p (nI v)) (fun _ y => MI n c y) k a m h (fun j y _ _ hy => MI.byte hy hv)
  exact this
theorem MI_setL {n c a : Nat} {m : Mg} (k : Nat) (h : MI n c m) : MI n c (setL a k m) := by
  have := forG_inv (f := fun p y => lckM y p (nI 1)) (fun _ y => MI n c y) k a m h (fun j y _ _ hy => MI.lck (b := true) hy)
  exact this
theorem MI.lock {n c a b : Nat} {m : Mg} (h : MI n c m) (hab : a ≤ b) (hb : b < n) : MI n c (lockM a b m) := MI_setL _ (h.pd (rowM_Pd h.1 hb hab))
theorem MI.fill {n c a b v : Nat} {m : Mg} (h : MI n c m) (hv : v < 256) : MI n c (fillM n a b (nI v) m).2 := MI_setB _ ((h.pd (depM_ok h.1).1).dr drpM_ok.1) hv
theorem MI.swap {n c a b : Nat} {m : Mg} (h : MI n c m) (ha : a < n) (hb : b < n) : MI n c (swapM n a b m).2 := by
  obtain ⟨v, hv, ev⟩ := val_by h.1 h.2.2.2.2.2.1 ha
  obtain ⟨w, hw, ew⟩ := val_by h.1 h.2.2.2.2.2.1 hb
  unfold swapM
  rw [ev, ew]
  exact MI.byte (MI.byte ((h.pd (depM_ok h.1).1).dr drpM_ok.1) hw) hv
theorem MI.kl {n c : Nat} {m : Mg} (h : MI n c m) : MI n c (klM n m) := h.pd (klM_Pd h.1)
theorem MI_payK {n c kind k : Nat} {m : Mg} (h : MI n c m) : MI n c (payK kind n k m) := h.pd (payK_ok h.1).1
theorem MI_payO {n c kind p : Nat} {m : Mg} (h : MI n c m) (hp : p < n) : MI n c (payO kind m p) := h.pd (payO_Pd hp)
theorem MI.row {n c a b : Nat} {m : Mg} (h : MI n c m) (hab : a ≤ b) (hb : b < n) : MI n c (rowM a b m) := h.pd (rowM_Pd h.1 hb hab)
theorem MI.fetch {n c p : Nat} {m : Mg} (h : MI n c m) (hp : p < n) : MI n c (fetchM p m) := by
  have h2 : MI n c (fetM p m) := MI.of h rfl rfl rfl h.2.2.1 h.2.2.2.2.1 rfl (EvOK.of h.2.1 rfl) h.2.2.2.2.2.1
  unfold fetchM
  by_cases e : m 5 4 = nI 1
  · rw [if_pos e]; exact MI_payO h2 hp
  · rw [if_neg e]; exact h2
theorem MI_cop0 {n c to_ len : Nat} {m : Mg} (h : MI n c m) : MI n (c + 1) (cop0 to_ len m) := by
  obtain ⟨h1, h2, h3, h4, h5, h6, h7, h8⟩ := h
  obtain ⟨k1, k2, k3⟩ := cop0_ok (to_ := to_) (len := len) h1 h2
  refine ⟨k1, k2, by unfold LK; rw [k3 4 (by decide) (by decide) (by decide)]; exact h3, h4, by unfold SBo; rw [k3 5 (by decide) (by decide) (by decide)]; exact h5, by unfold BYo; rw [k3 1 (by decide) (by decide) (by decide)]; exact h6, ?_, fun p hp ho => ?_⟩
  · unfold cop0
    rw [noteM_c (by decide) (by decide)]
    show m 6 0 + nI 1 = nI (c + 1)
    rw [h7, nI_add]
  · rw [owb_of (k3 2 (by decide) (by decide) (by decide))] at ho
    rw [k3 3 (by decide) (by decide) (by decide)]
    obtain ⟨v, hv, e⟩ := h8 p hp ho
    exact ⟨v, by omega, e⟩
theorem MI_copS {T : Nat → Bool} {n c fr to_ i : Nat} {num : Int32} {cf : Nat → Int32} {y : Mg} (h : MI n (c + 1) y) (hS : Sep T n y) (hnum : num = nI c) (hf : fr + i < n) (ht : to_ + i < n) (hT : T (to_ + i) = true) (hc : ∃ v, v < 256 ∧ cf i = nI v) : MI n (c + 1) (copS T fr to_ num cf i y) := by
  obtain ⟨k1, k2, k3, k4, k5⟩ := copS_ok (num := num) (c := cf) h.1 hS h.2.1 hf ht hT
  obtain ⟨h1, h2, h3, h4, h5, h6, h7, h8⟩ := h
  refine ⟨k1, k3, by unfold LK; rw [k4]; exact h3, h4, by unfold SBo; rw [k5]; exact h5, ?_, ?_, ?_⟩
  · unfold copS
    by_cases e : T (fr + i) = true
    · rw [if_pos e]
      obtain ⟨v, hv, ev⟩ := hc
      unfold BYo
      rw [cpM_c (by decide), noteM_c (by decide) (by decide), ev]
      exact BYo.upd h6 hv
    · rw [if_neg e]; exact h6
  · unfold copS
    by_cases e : T (fr + i) = true
    · rw [if_pos e, cpM_60, noteM_c (by decide) (by decide)]; exact h7
    · rw [if_neg e]; exact h7
  · intro p hp ho
    by_cases e : T (fr + i) = true
    · have e1 : copS T fr to_ num cf i y = _ := if_pos e
      rw [e1] at ho ⊢
      rw [owb_of (m := y) (atM_c (by decide) (by decide) (by decide) (by decide))] at ho
      rw [atM_c (by decide) (by decide) (by decide) (by decide)]
      exact h8 p hp ho
    · have e1 : copS T fr to_ num cf i y = _ := if_neg e
      rw [e1] at ho ⊢
      by_cases z : p = to_ + i
      · subst z
        exact ⟨c, by omega, (show upd (y 3) (to_ + i) num (to_ + i) = nI c from upd_s.trans hnum)⟩
      · have ho2 : ¬ upd (y 2) (to_ + i) _ p = -1 := owb_t.mp ho
        rw [upd_o z] at ho2
        obtain ⟨v, hv, e3⟩ := h8 p hp (owb_t.mpr ho2)
        exact ⟨v, hv, (show upd (y 3) (to_ + i) num p = nI v from (upd_o z).trans e3)⟩
theorem MI.copy {n c fr to_ len : Nat} {m : Mg} (h : MI n c m) (h1 : 1 ≤ len) (hf : fr + len ≤ n) (ht : to_ + len ≤ n) : MI n (c + 1) (copyM n fr to_ len m) := by
  refine MI.kl ?_
  have a1 := MI_cop0 h (to_ := to_) (len := len)
  have a2 : MI n (c + 1) (copD n to_ len m) := a1.pd (depM_ok a1.1).1
  have a3 := a2.dr (drpM_ok (T := rowT to_ (to_ + len - 1))).1
  have a4 := sep_dep (T := rowT to_ (to_ + len - 1)) a1.1
  have := forG_inv (f := copS (rowT to_ (to_ + len - 1)) fr to_ (m 6 0) (fun i => valM (copD n to_ len m) (fr + i))) (fun _ y => MI n (c + 1) y ∧ Sep (rowT to_ (to_ + len - 1)) n y) len 0 (drpM (rowT to_ (to_ + len - 1)) n (copD n to_ len m)) ⟨a3, a4⟩ (fun j y _ hj hy => by
    have hT : rowT to_ (to_ + len - 1) (to_ + j) = true := by simp [rowT]; omega
    exact ⟨MI_copS hy.1 hy.2 h.2.2.2.2.2.2.1 (by omega) (by omega) hT (val_by a2.1 a2.2.2.2.2.2.1 (by omega)), (copS_ok hy.1.1 hy.2 hy.1.2.1 (by omega) (by omega) hT).2.1⟩)
  exact this.1
theorem MI.short {n c p : Nat} {m : Mg} (h : MI n c m) (hp : p < n) (ho : owb m p = true) : MI n c (srcM m p (nI (rootM m p))) := by
  obtain ⟨h1, h2, h3, h4, h5, h6, h7, h8⟩ := h
  have hr := root_end h1 p hp
  have h96 := h1.2.1
  have e2 : srcM m p (nI (rootM m p)) 2 = upd (m 2) p (nI (rootM m p)) := rfl
  have hd : ∀ q, q < n → ¬ q = p → owb (srcM m p (nI (rootM m p))) q = owb m q := fun q _ z => by unfold owb; rw [e2, upd_o z]
  refine ⟨⟨h1.1, h1.2.1, fun q hq => ?_, ?_⟩, EvOK.of h2 rfl, h3, h4, h5, h6, h7, fun q hq hq2 => ?_⟩
  · rw [e2]
    by_cases z : q = p
    · subst z; exact Or.inr ⟨_, hr.1, upd_s⟩
    · rw [upd_o z]; exact h1.2.2.1 q hq
  · obtain ⟨rk, k1, k2⟩ := IM_rk h1
    have hroot : ∀ q, q < n → owb m q = true → rk (rootM m q) < rk q := by
      refine IM_ind h1 (fun q hq ih hoq => ?_)
      rw [root_eq h1 hq, if_neg (owb_t.mp hoq)]
      have hs := IM_src h1 hq (owb_t.mp hoq)
      have h3 := k2 q hq (owb_t.mp hoq)
      by_cases z : owb m (src m q) = true
      · have := ih (owb_t.mp hoq) z; omega
      · rw [root_eq h1 hs.1, if_pos (owb_f.mp (by simpa using z))]; exact h3
    refine ⟨rk, fun q s hq hs e => ?_⟩
    rw [e2] at e
    by_cases z : q = p
    · subst z
      rw [upd_s] at e
      have := nI_inj (by omega) (by omega) e
      subst this
      exact hroot q hq ho
    · rw [upd_o z] at e
      have hz : ¬ m 2 q = -1 := by rw [e]; exact nI_nm1 (by omega)
      have es : src m q = s := by unfold src; rw [e, nI_toInt (by omega)]; rfl
      have := k2 q hq hz
      rw [es] at this
      exact this
  · by_cases z : q = p
    · subst z; exact h8 q hq ho
    · rw [hd q hq z] at hq2; exact h8 q hq hq2
