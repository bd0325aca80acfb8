/-! the reference's input -/
theorem sh_byt {w : Int32} {t : Nat} (h : t < 4) : (w >>> (nI (24 - 8 * t) &&& 31)) &&& nI 255 = byt w (shI t) := by
  have key : ∀ s : Nat, s ≤ 24 → ∀ x : BitVec 32, (x.sshiftRight s) &&& 255#32 = (x >>> s) &&& 255#32 := by
    intro s hs x
    apply BitVec.eq_of_getLsbD_eq
    intro i hi
    rw [BitVec.getLsbD_and, BitVec.getLsbD_and, BitVec.getLsbD_sshiftRight, BitVec.getLsbD_ushiftRight]
    by_cases c : i < 8
    · have e1 : decide (32 ≤ i) = false := decide_eq_false (by omega)
      rw [e1, if_pos (show s + i < 32 by omega)]
      rfl
    · have e : (255#32 : BitVec 32).getLsbD i = false := by
        have : i = 8 ∨ i = 9 ∨ i = 10 ∨ i = 11 ∨ i = 12 ∨ i = 13 ∨ i = 14 ∨ i = 15 ∨ i = 16 ∨ i = 17 ∨ i = 18 ∨ i = 19 ∨ i = 20 ∨ i = 21 ∨ i = 22 ∨ i = 23 ∨ i = 24 ∨ i = 25 ∨ i = 26 ∨ i = 27 ∨ i = 28 ∨ i = 29 ∨ i = 30 ∨ i = 31 := by omega
        rcases this with rfl | rfl | rfl | rfl | rfl | rfl | rfl | rfl | rfl | rfl | rfl | rfl | rfl | rfl | rfl | rfl | rfl | rfl | rfl | rfl | rfl | rfl | rfl | rfl <;> rfl
      rw [e, Bool.and_false, Bool.and_false]
  unfold byt
  have ht : t = 0 ∨ t = 1 ∨ t = 2 ∨ t = 3 := by omega
  apply Int32.toBitVec_inj.mp
  rcases ht with rfl | rfl | rfl | rfl
  · exact key 24 (by decide) w.toBitVec
  · exact key 16 (by decide) w.toBitVec
  · exact key 8 (by decide) w.toBitVec
  · exact key 0 (by decide) w.toBitVec
def wdN (a b c d e : Int32) (k : Nat) : Int32 := if k < 4 then a else if k < 8 then b else if k < 12 then c else if k < 16 then d else e
def byL (a b c d e : Int32) (k : Nat) : Int32 := byt (wdN a b c d e k) (shI (k % 4))
/-- the buffer with n more bytes from f on -/
def bfB (B : Nat → Int32) (f n : Nat) (a b c d e : Int32) : Nat → Int32 := fun i => if f ≤ i ∧ i < f + n then byL a b c d e (i - f) else B i
theorem bfB_0 {B : Nat → Int32} {f : Nat} {a b c d e : Int32} : bfB B f 0 a b c d e = B := funext fun i => if_neg (by omega)
theorem bfB_s {B : Nat → Int32} {f n : Nat} {a b c d e : Int32} : upd (bfB B f n a b c d e) (f + n) (byL a b c d e n) = bfB B f (n + 1) a b c d e := by
  funext i
  unfold upd bfB
  by_cases h : i = f + n
  · rw [if_pos h, if_pos (by omega)]
    exact congrArg _ (by omega)
  · rw [if_neg h]
    by_cases h2 : f ≤ i ∧ i < f + n
    · rw [if_pos h2, if_pos (by omega)]
    · rw [if_neg h2, if_neg (by omega)]
theorem tkN_13 {r : G} {f : Nat} {w : Int32} : ∀ (t i : Nat), tkN r f w t 13 i = if f ≤ i ∧ i < f + t then byt w (shI (i - f)) else r 13 i
  | 0, i => (if_neg (by omega)).symm
  | t + 1, i => by
    show upd (tkN r f w t 13) (f + t) (byt w (shI t)) i = _
    by_cases h : i = f + t
    · rw [h, upd_s, if_pos (by omega), Nat.add_sub_cancel_left]
    · rw [upd_o h, tkN_13 t i]
      by_cases h2 : f ≤ i ∧ i < f + t
      · rw [if_pos h2, if_pos (by omega)]
      · rw [if_neg h2, if_neg (by omega)]
theorem ap5_13 {r : G} {f : Nat} {a b c d e : Int32} : ap5 r f a b c d e 13 = bfB (r 13) f 20 a b c d e := by
  funext i
  unfold ap5 bfB byL wdN
  rw [tkN_13, tkN_13, tkN_13, tkN_13, tkN_13]
  by_cases h5 : f + 16 ≤ i ∧ i < f + 16 + 4
  · rw [if_pos h5, if_pos (by omega), if_neg (by omega), if_neg (by omega), if_neg (by omega), if_neg (by omega)]
    exact congrArg (fun z => byt e (shI z)) (by omega)
  rw [if_neg h5]
  by_cases h4 : f + 12 ≤ i ∧ i < f + 12 + 4
  · rw [if_pos h4, if_pos (by omega), if_neg (by omega), if_neg (by omega), if_neg (by omega), if_pos (by omega)]
    exact congrArg (fun z => byt d (shI z)) (by omega)
  rw [if_neg h4]
  by_cases h3 : f + 8 ≤ i ∧ i < f + 8 + 4
  · rw [if_pos h3, if_pos (by omega), if_neg (by omega), if_neg (by omega), if_pos (by omega)]
    exact congrArg (fun z => byt c (shI z)) (by omega)
  rw [if_neg h3]
  by_cases h2 : f + 4 ≤ i ∧ i < f + 4 + 4
  · rw [if_pos h2, if_pos (by omega), if_neg (by omega), if_pos (by omega)]
    exact congrArg (fun z => byt b (shI z)) (by omega)
  rw [if_neg h2]
  by_cases h1 : f ≤ i ∧ i < f + 4
  · rw [if_pos h1, if_pos (by omega), if_pos (by omega)]
    exact congrArg (fun z => byt a (shI z)) (by omega)
  rw [if_neg h1, if_neg (by omega)]
theorem tkN_0 {r : G} {f : Nat} {w : Int32} {k : Nat} (hk : ¬ k = 2) : ∀ t, tkN r f w t 0 k = r 0 k
  | 0 => rfl
  | t + 1 => by
    show upd (tkN r f w t 0) 2 _ k = _
    rw [upd_o hk]
    exact tkN_0 hk t
theorem ap5_0 {r : G} {f k : Nat} {a b c d e : Int32} (hk : ¬ k = 2) : ap5 r f a b c d e 0 k = r 0 k := by
  unfold ap5
  rw [tkN_0 hk, tkN_0 hk, tkN_0 hk, tkN_0 hk, tkN_0 hk]
theorem ap5_2 {r : G} {f : Nat} {a b c d e : Int32} : ap5 r f a b c d e 0 2 = nI (f + 20) := rfl
set_option maxHeartbeats 16000000 in
theorem c_X6_append {l : Launch} (hl : l.stackTraces = false) {κ : Kp} {h : Nat → Nat} {g : G} {f : Nat} {a b c d e : Int32} (hf : g 0 8 = nI f) (h7 : f ≤ 700) : Ct SS MM l κ yX6_append cX6_append 8 (some FieldType.int) 0 0 0 [.ref (h 0), .int a, .int b, .int c, .int d, .int e] (qS κ h) g ri (fun v u => (¬ f + 20 ≤ 700 ∧ v = -1 ∧ u = tg g 0) ∨ (f + 20 ≤ 700 ∧ v = nI (f + 20) ∧ u = (sG (sG g 0 (upd (upd (g 0) 0 (nI 0)) 8 (nI (f + 20)))) 4 (bfB (g 4) f 20 a b c d e)))) (fun _ _ => False) := by
  refine Ct.of (own := RX6) (by decide) rfl hl (by intro v hv; simp only [List.mem_cons, List.not_mem_nil, or_false] at hv; first | (rcases hv with rfl | rfl | rfl | rfl | rfl | rfl <;> rfl) | (rcases hv with rfl | rfl | rfl | rfl | rfl <;> rfl) | (rcases hv with rfl | rfl | rfl | rfl <;> rfl) | (rcases hv with rfl | rfl | rfl <;> rfl) | (rcases hv with rfl | rfl <;> rfl) | (subst hv; rfl) | exact hv.elim) (Nat.le_of_ble_eq_true rfl) (fun X hxl hxk C F N => ?_)
  subst hxl hxk
  show V X (qS (xK X) h) 0 [some (.ref (h 0)), some (.int a), some (.int b), some (.int c), some (.int d), some (.int e), none, none] [] g 0 0
  refine v_aload_n C dX6_append_0 rfl ?_
  refine v_iconst (v := nI 0) C dX6_append_1 (by decide) ?_
  refine v_puti C fl_X6_33 fw_X6_0 oi_qS_0_0 ⟨rfl, rfl⟩ dX6_append_2 ?_
  refine V.stt (g2 := tg g 0) (rfl) ?_
  refine v_aload_n C dX6_append_5 rfl ?_
  refine v_getiQ (x := nI f) C fl_X6_44 oi_qS_0_8 (hf) dX6_append_6 ?_
  refine v_bipush (v := nI 20) C dX6_append_9 (by decide) ?_
  first | refine v_iaddN C dX6_append_11 ?_ | refine v_iadd C dX6_append_11 ?_
  refine v_sipush (v := nI 700) C dX6_append_12 (by decide) ?_
  first | refine v_icmp_leN C 20 dX6_append_15 (by decide) (by omega) (by omega) (fun c15 => ?_) (fun c15 => ?_) | refine v_icmp_le C 20 dX6_append_15 (by decide) (fun c15 => ?_) (fun c15 => ?_)
  · refine v_iconst (v := nI 0) C dX6_append_20 (by decide) ?_
    refine v_istore C (lo2 := [some _, some _, some _, some _, some _, some _, some _, none]) dX6_append_21 rfl (Nat.le_of_ble_eq_true rfl) rfl ?_
    have L23 : ∀ (t : Nat), (fun t => t ≤ 20) t → (fun t : Nat => V X (qS (xK X) h) 23 [some (.ref (h 0)), some (.int a), some (.int b), some (.int c), some (.int d), some (.int e), some (.int (nI t)), none] [] (sG (tg g 0) 4 (bfB (g 4) f t a b c d e)) 0 0) t := by
      refine v_ind (fun t : Nat => 20 - t) ?_
      rintro k ih23 hI23
      try dsimp only at hI23 ⊢
      refine v_iload C dX6_append_23 rfl ?_
      refine v_bipush (v := nI 20) C dX6_append_25 (by decide) ?_
      first | refine v_icmp_geN C 113 dX6_append_27 (by decide) (by omega) (by omega) (fun c27 => ?_) (fun c27 => ?_) | refine v_icmp_ge C 113 dX6_append_27 (by decide) (fun c27 => ?_) (fun c27 => ?_)
      · have ek : k = 20 := by omega
        subst ek
        refine v_aload_n C dX6_append_113 rfl ?_
        refine v_dup C dX6_append_114 rfl ?_
        refine v_getiQ (x := nI f) C fl_X6_44 oi_qS_0_8 (hf) dX6_append_115 ?_
        refine v_bipush (v := nI 20) C dX6_append_118 (by decide) ?_
        first | refine v_iaddN C dX6_append_120 ?_ | refine v_iadd C dX6_append_120 ?_
        refine v_puti C fl_X6_44 fw_X6_8 oi_qS_0_8 ⟨rfl, rfl⟩ dX6_append_121 ?_
        refine V.stt (g2 := (sG (sG g 0 (upd (upd (g 0) 0 (nI 0)) 8 (nI (f + 20)))) 4 (bfB (g 4) f 20 a b c d e))) (by rw [sG_comm (a := 4) (b := 0) (by decide)]; unfold tg; rw [show sG (sG g 0 (upd (g 0) 0 (nI 0))) 4 (bfB (g 4) f 20 a b c d e) 0 = upd (g 0) 0 (nI 0) from rfl, sG_sG]) ?_
        refine v_aload_n C dX6_append_124 rfl ?_
        refine v_getiQ (x := nI (f + 20)) C fl_X6_44 oi_qS_0_8 (rfl) dX6_append_125 ?_
        refine v_iret C F (by first | rfl | exact bI_nar _) dX6_append_128 (Nat.le_of_ble_eq_true rfl) (Nat.le_of_ble_eq_true rfl) ?_
        exact Or.inr ⟨by omega, rfl, rfl⟩
      · refine v_iload C dX6_append_30 rfl ?_
        refine v_iconst (v := nI 4) C dX6_append_32 (by decide) ?_
        first | refine v_icmp_geN C 40 dX6_append_33 (by decide) (by omega) (by omega) (fun c33 => ?_) (fun c33 => ?_) | refine v_icmp_ge C 40 dX6_append_33 (by decide) (fun c33 => ?_) (fun c33 => ?_)
        · refine v_iload C dX6_append_40 rfl ?_
          refine v_bipush (v := nI 8) C dX6_append_42 (by decide) ?_
          first | refine v_icmp_geN C 51 dX6_append_44 (by decide) (by omega) (by omega) (fun c44 => ?_) (fun c44 => ?_) | refine v_icmp_ge C 51 dX6_append_44 (by decide) (fun c44 => ?_) (fun c44 => ?_)
          · refine v_iload C dX6_append_51 rfl ?_
            refine v_bipush (v := nI 12) C dX6_append_53 (by decide) ?_
            first | refine v_icmp_geN C 62 dX6_append_55 (by decide) (by omega) (by omega) (fun c55 => ?_) (fun c55 => ?_) | refine v_icmp_ge C 62 dX6_append_55 (by decide) (fun c55 => ?_) (fun c55 => ?_)
            · refine v_iload C dX6_append_62 rfl ?_
              refine v_bipush (v := nI 16) C dX6_append_64 (by decide) ?_
              first | refine v_icmp_geN C 74 dX6_append_66 (by decide) (by omega) (by omega) (fun c66 => ?_) (fun c66 => ?_) | refine v_icmp_ge C 74 dX6_append_66 (by decide) (fun c66 => ?_) (fun c66 => ?_)
              · refine v_iload C dX6_append_74 rfl ?_
                refine V.eqs (st2 := [.int (wdN a b c d e k)]) ?_ (congrArg (fun z => [Value.int z]) (by unfold wdN; first | rw [if_pos (by omega)] | rw [if_neg (by omega), if_pos (by omega)] | rw [if_neg (by omega), if_neg (by omega), if_pos (by omega)] | rw [if_neg (by omega), if_neg (by omega), if_neg (by omega), if_pos (by omega)] | rw [if_neg (by omega), if_neg (by omega), if_neg (by omega), if_neg (by omega)]))
                refine v_istore C (lo2 := [some _, some _, some _, some _, some _, some _, some _, some _]) dX6_append_76 rfl (Nat.le_of_ble_eq_true rfl) rfl ?_
                refine v_aload_n C dX6_append_78 rfl ?_
                refine v_getr C fl_X6_20 or_qS_0_7 dX6_append_79 ?_
                refine v_aload_n C dX6_append_82 rfl ?_
                refine v_getiQ (x := nI f) C fl_X6_44 oi_qS_0_8 (hf) dX6_append_83 ?_
                refine v_iload C dX6_append_86 rfl ?_
                first | refine v_iaddN C dX6_append_88 ?_ | refine v_iadd C dX6_append_88 ?_
                refine v_iload C dX6_append_89 rfl ?_
                refine v_bipush (v := nI 24) C dX6_append_91 (by decide) ?_
                refine v_bipush (v := nI 8) C dX6_append_93 (by decide) ?_
                refine v_iload C dX6_append_95 rfl ?_
                refine v_iconst (v := nI 4) C dX6_append_97 (by decide) ?_
                refine v_iremN C dX6_append_98 (by omega) (by omega) (by omega) ?_
                first | refine v_imulN C dX6_append_99 ?_ | refine v_imul C dX6_append_99 ?_
                first | refine v_isubN C dX6_append_100 (by omega) ?_ | refine v_isub C dX6_append_100 ?_
                refine v_ishr C dX6_append_101 ?_
                refine v_sipush (v := nI 255) C dX6_append_102 (by decide) ?_
                refine v_iand C dX6_append_105 ?_
                refine v_iast C ar_qS_4 (by decide) _ ?_ rfl dX6_append_106 ?_
                · omega
                refine V.stt (g2 := (sG (tg g 0) 4 (bfB (g 4) f (k + 1) a b c d e))) (by rw [sh_byt (show k % 4 < 4 by omega), ← bfB_s]; exact sG_sG) ?_
                first | refine v_iinc1 C (lo2 := [some _, some _, some _, some _, some _, some _, some _, some _]) dX6_append_107 rfl rfl rfl ?_ | refine v_iinc C (lo2 := [some _, some _, some _, some _, some _, some _, some _, some _]) dX6_append_107 rfl rfl rfl rfl ?_
                refine v_goto C 23 dX6_append_110 (by decide) ?_
                refine V.sub (lo2 := [some _, some _, some _, some _, some _, some _, some _, none]) ⟨rfl, rfl, rfl, rfl, rfl, rfl, rfl, trivial⟩ ?_
                exact ih23 (k + 1) (by show 20 - (k + 1) < 20 - k; omega) (by show k + 1 ≤ 20; omega)
              · refine v_iload C dX6_append_69 rfl ?_
                refine v_goto C 76 dX6_append_71 (by decide) ?_
                refine V.eqs (st2 := [.int (wdN a b c d e k)]) ?_ (congrArg (fun z => [Value.int z]) (by unfold wdN; first | rw [if_pos (by omega)] | rw [if_neg (by omega), if_pos (by omega)] | rw [if_neg (by omega), if_neg (by omega), if_pos (by omega)] | rw [if_neg (by omega), if_neg (by omega), if_neg (by omega), if_pos (by omega)] | rw [if_neg (by omega), if_neg (by omega), if_neg (by omega), if_neg (by omega)]))
                refine v_istore C (lo2 := [some _, some _, some _, some _, some _, some _, some _, some _]) dX6_append_76 rfl (Nat.le_of_ble_eq_true rfl) rfl ?_
                refine v_aload_n C dX6_append_78 rfl ?_
                refine v_getr C fl_X6_20 or_qS_0_7 dX6_append_79 ?_
                refine v_aload_n C dX6_append_82 rfl ?_
                refine v_getiQ (x := nI f) C fl_X6_44 oi_qS_0_8 (hf) dX6_append_83 ?_
                refine v_iload C dX6_append_86 rfl ?_
                first | refine v_iaddN C dX6_append_88 ?_ | refine v_iadd C dX6_append_88 ?_
                refine v_iload C dX6_append_89 rfl ?_
                refine v_bipush (v := nI 24) C dX6_append_91 (by decide) ?_
                refine v_bipush (v := nI 8) C dX6_append_93 (by decide) ?_
                refine v_iload C dX6_append_95 rfl ?_
                refine v_iconst (v := nI 4) C dX6_append_97 (by decide) ?_
                refine v_iremN C dX6_append_98 (by omega) (by omega) (by omega) ?_
                first | refine v_imulN C dX6_append_99 ?_ | refine v_imul C dX6_append_99 ?_
                first | refine v_isubN C dX6_append_100 (by omega) ?_ | refine v_isub C dX6_append_100 ?_
                refine v_ishr C dX6_append_101 ?_
                refine v_sipush (v := nI 255) C dX6_append_102 (by decide) ?_
                refine v_iand C dX6_append_105 ?_
                refine v_iast C ar_qS_4 (by decide) _ ?_ rfl dX6_append_106 ?_
                · omega
                refine V.stt (g2 := (sG (tg g 0) 4 (bfB (g 4) f (k + 1) a b c d e))) (by rw [sh_byt (show k % 4 < 4 by omega), ← bfB_s]; exact sG_sG) ?_
                first | refine v_iinc1 C (lo2 := [some _, some _, some _, some _, some _, some _, some _, some _]) dX6_append_107 rfl rfl rfl ?_ | refine v_iinc C (lo2 := [some _, some _, some _, some _, some _, some _, some _, some _]) dX6_append_107 rfl rfl rfl rfl ?_
                refine v_goto C 23 dX6_append_110 (by decide) ?_
                refine V.sub (lo2 := [some _, some _, some _, some _, some _, some _, some _, none]) ⟨rfl, rfl, rfl, rfl, rfl, rfl, rfl, trivial⟩ ?_
                exact ih23 (k + 1) (by show 20 - (k + 1) < 20 - k; omega) (by show k + 1 ≤ 20; omega)
            · refine v_iload_n C dX6_append_58 rfl ?_
              refine v_goto C 76 dX6_append_59 (by decide) ?_
              refine V.eqs (st2 := [.int (wdN a b c d e k)]) ?_ (congrArg (fun z => [Value.int z]) (by unfold wdN; first | rw [if_pos (by omega)] | rw [if_neg (by omega), if_pos (by omega)] | rw [if_neg (by omega), if_neg (by omega), if_pos (by omega)] | rw [if_neg (by omega), if_neg (by omega), if_neg (by omega), if_pos (by omega)] | rw [if_neg (by omega), if_neg (by omega), if_neg (by omega), if_neg (by omega)]))
              refine v_istore C (lo2 := [some _, some _, some _, some _, some _, some _, some _, some _]) dX6_append_76 rfl (Nat.le_of_ble_eq_true rfl) rfl ?_
              refine v_aload_n C dX6_append_78 rfl ?_
              refine v_getr C fl_X6_20 or_qS_0_7 dX6_append_79 ?_
              refine v_aload_n C dX6_append_82 rfl ?_
              refine v_getiQ (x := nI f) C fl_X6_44 oi_qS_0_8 (hf) dX6_append_83 ?_
              refine v_iload C dX6_append_86 rfl ?_
              first | refine v_iaddN C dX6_append_88 ?_ | refine v_iadd C dX6_append_88 ?_
              refine v_iload C dX6_append_89 rfl ?_
              refine v_bipush (v := nI 24) C dX6_append_91 (by decide) ?_
              refine v_bipush (v := nI 8) C dX6_append_93 (by decide) ?_
              refine v_iload C dX6_append_95 rfl ?_
              refine v_iconst (v := nI 4) C dX6_append_97 (by decide) ?_
              refine v_iremN C dX6_append_98 (by omega) (by omega) (by omega) ?_
              first | refine v_imulN C dX6_append_99 ?_ | refine v_imul C dX6_append_99 ?_
              first | refine v_isubN C dX6_append_100 (by omega) ?_ | refine v_isub C dX6_append_100 ?_
              refine v_ishr C dX6_append_101 ?_
              refine v_sipush (v := nI 255) C dX6_append_102 (by decide) ?_
              refine v_iand C dX6_append_105 ?_
              refine v_iast C ar_qS_4 (by decide) _ ?_ rfl dX6_append_106 ?_
              · omega
              refine V.stt (g2 := (sG (tg g 0) 4 (bfB (g 4) f (k + 1) a b c d e))) (by rw [sh_byt (show k % 4 < 4 by omega), ← bfB_s]; exact sG_sG) ?_
              first | refine v_iinc1 C (lo2 := [some _, some _, some _, some _, some _, some _, some _, some _]) dX6_append_107 rfl rfl rfl ?_ | refine v_iinc C (lo2 := [some _, some _, some _, some _, some _, some _, some _, some _]) dX6_append_107 rfl rfl rfl rfl ?_
              refine v_goto C 23 dX6_append_110 (by decide) ?_
              refine V.sub (lo2 := [some _, some _, some _, some _, some _, some _, some _, none]) ⟨rfl, rfl, rfl, rfl, rfl, rfl, rfl, trivial⟩ ?_
              exact ih23 (k + 1) (by show 20 - (k + 1) < 20 - k; omega) (by show k + 1 ≤ 20; omega)
          · refine v_iload_n C dX6_append_47 rfl ?_
            refine v_goto C 76 dX6_append_48 (by decide) ?_
            refine V.eqs (st2 := [.int (wdN a b c d e k)]) ?_ (congrArg (fun z => [Value.int z]) (by unfold wdN; first | rw [if_pos (by omega)] | rw [if_neg (by omega), if_pos (by omega)] | rw [if_neg (by omega), if_neg (by omega), if_pos (by omega)] | rw [if_neg (by omega), if_neg (by omega), if_neg (by omega), if_pos (by omega)] | rw [if_neg (by omega), if_neg (by omega), if_neg (by omega), if_neg (by omega)]))
            refine v_istore C (lo2 := [some _, some _, some _, some _, some _, some _, some _, some _]) dX6_append_76 rfl (Nat.le_of_ble_eq_true rfl) rfl ?_
            refine v_aload_n C dX6_append_78 rfl ?_
            refine v_getr C fl_X6_20 or_qS_0_7 dX6_append_79 ?_
            refine v_aload_n C dX6_append_82 rfl ?_
            refine v_getiQ (x := nI f) C fl_X6_44 oi_qS_0_8 (hf) dX6_append_83 ?_
            refine v_iload C dX6_append_86 rfl ?_
            first | refine v_iaddN C dX6_append_88 ?_ | refine v_iadd C dX6_append_88 ?_
            refine v_iload C dX6_append_89 rfl ?_
            refine v_bipush (v := nI 24) C dX6_append_91 (by decide) ?_
            refine v_bipush (v := nI 8) C dX6_append_93 (by decide) ?_
            refine v_iload C dX6_append_95 rfl ?_
            refine v_iconst (v := nI 4) C dX6_append_97 (by decide) ?_
            refine v_iremN C dX6_append_98 (by omega) (by omega) (by omega) ?_
            first | refine v_imulN C dX6_append_99 ?_ | refine v_imul C dX6_append_99 ?_
            first | refine v_isubN C dX6_append_100 (by omega) ?_ | refine v_isub C dX6_append_100 ?_
            refine v_ishr C dX6_append_101 ?_
            refine v_sipush (v := nI 255) C dX6_append_102 (by decide) ?_
            refine v_iand C dX6_append_105 ?_
            refine v_iast C ar_qS_4 (by decide) _ ?_ rfl dX6_append_106 ?_
            · omega
            refine V.stt (g2 := (sG (tg g 0) 4 (bfB (g 4) f (k + 1) a b c d e))) (by rw [sh_byt (show k % 4 < 4 by omega), ← bfB_s]; exact sG_sG) ?_
            first | refine v_iinc1 C (lo2 := [some _, some _, some _, some _, some _, some _, some _, some _]) dX6_append_107 rfl rfl rfl ?_ | refine v_iinc C (lo2 := [some _, some _, some _, some _, some _, some _, some _, some _]) dX6_append_107 rfl rfl rfl rfl ?_
            refine v_goto C 23 dX6_append_110 (by decide) ?_
            refine V.sub (lo2 := [some _, some _, some _, some _, some _, some _, some _, none]) ⟨rfl, rfl, rfl, rfl, rfl, rfl, rfl, trivial⟩ ?_
            exact ih23 (k + 1) (by show 20 - (k + 1) < 20 - k; omega) (by show k + 1 ≤ 20; omega)
        · refine v_iload_n C dX6_append_36 rfl ?_
          refine v_goto C 76 dX6_append_37 (by decide) ?_
          refine V.eqs (st2 := [.int (wdN a b c d e k)]) ?_ (congrArg (fun z => [Value.int z]) (by unfold wdN; first | rw [if_pos (by omega)] | rw [if_neg (by omega), if_pos (by omega)] | rw [if_neg (by omega), if_neg (by omega), if_pos (by omega)] | rw [if_neg (by omega), if_neg (by omega), if_neg (by omega), if_pos (by omega)] | rw [if_neg (by omega), if_neg (by omega), if_neg (by omega), if_neg (by omega)]))
          refine v_istore C (lo2 := [some _, some _, some _, some _, some _, some _, some _, some _]) dX6_append_76 rfl (Nat.le_of_ble_eq_true rfl) rfl ?_
          refine v_aload_n C dX6_append_78 rfl ?_
          refine v_getr C fl_X6_20 or_qS_0_7 dX6_append_79 ?_
          refine v_aload_n C dX6_append_82 rfl ?_
          refine v_getiQ (x := nI f) C fl_X6_44 oi_qS_0_8 (hf) dX6_append_83 ?_
          refine v_iload C dX6_append_86 rfl ?_
          first | refine v_iaddN C dX6_append_88 ?_ | refine v_iadd C dX6_append_88 ?_
          refine v_iload C dX6_append_89 rfl ?_
          refine v_bipush (v := nI 24) C dX6_append_91 (by decide) ?_
          refine v_bipush (v := nI 8) C dX6_append_93 (by decide) ?_
          refine v_iload C dX6_append_95 rfl ?_
          refine v_iconst (v := nI 4) C dX6_append_97 (by decide) ?_
          refine v_iremN C dX6_append_98 (by omega) (by omega) (by omega) ?_
          first | refine v_imulN C dX6_append_99 ?_ | refine v_imul C dX6_append_99 ?_
          first | refine v_isubN C dX6_append_100 (by omega) ?_ | refine v_isub C dX6_append_100 ?_
          refine v_ishr C dX6_append_101 ?_
          refine v_sipush (v := nI 255) C dX6_append_102 (by decide) ?_
          refine v_iand C dX6_append_105 ?_
          refine v_iast C ar_qS_4 (by decide) _ ?_ rfl dX6_append_106 ?_
          · omega
          refine V.stt (g2 := (sG (tg g 0) 4 (bfB (g 4) f (k + 1) a b c d e))) (by rw [sh_byt (show k % 4 < 4 by omega), ← bfB_s]; exact sG_sG) ?_
          first | refine v_iinc1 C (lo2 := [some _, some _, some _, some _, some _, some _, some _, some _]) dX6_append_107 rfl rfl rfl ?_ | refine v_iinc C (lo2 := [some _, some _, some _, some _, some _, some _, some _, some _]) dX6_append_107 rfl rfl rfl rfl ?_
          refine v_goto C 23 dX6_append_110 (by decide) ?_
          refine V.sub (lo2 := [some _, some _, some _, some _, some _, some _, some _, none]) ⟨rfl, rfl, rfl, rfl, rfl, rfl, rfl, trivial⟩ ?_
          exact ih23 (k + 1) (by show 20 - (k + 1) < 20 - k; omega) (by show k + 1 ≤ 20; omega)
    have H := L23 0 (by show 0 ≤ 20; omega)
    try dsimp only at H
    rw [bfB_0, show sG (tg g 0) 4 (g 4) = tg g 0 from sG_id rfl] at H
    exact H
  · refine v_iconst (v := (-1)) C dX6_append_18 (by decide) ?_
    refine v_iret C F (by first | rfl | exact bI_nar _) dX6_append_19 (Nat.le_of_ble_eq_true rfl) (Nat.le_of_ble_eq_true rfl) ?_
    exact Or.inl ⟨by omega, rfl, rfl⟩
set_option maxHeartbeats 16000000 in
theorem c_X6_undo {l : Launch} (hl : l.stackTraces = false) {κ : Kp} {h : Nat → Nat} {g : G} {L : List Mg} (hH : QHs L g) (hEL : ∀ x ∈ L, EvOK x) : Ct SS MM l κ yX6_undo cX6_undo 1 (some FieldType.int) 1 0 0 [.ref (h 0)] (qS κ h) g ri (fun r u => ((cdL [(L.isEmpty, 1)]) = 0 → r = nI (L.length - 1) ∧ ∃ x L2 f, L = x :: L2 ∧ u = sG (sG g 0 (upd (upd (g 0) 0 (nI 0)) 5 (nI L2.length))) 1 f ∧ RowR x f) ∧ (¬ (cdL [(L.isEmpty, 1)]) = 0 → u = tg g 1)) (fun _ _ => False) := by
  refine Ct.of (own := RX6) (by decide) rfl hl (by intro v hv; simp only [List.mem_cons, List.not_mem_nil, or_false] at hv; first | (rcases hv with rfl | rfl | rfl | rfl | rfl | rfl <;> rfl) | (rcases hv with rfl | rfl | rfl | rfl | rfl <;> rfl) | (rcases hv with rfl | rfl | rfl | rfl <;> rfl) | (rcases hv with rfl | rfl | rfl <;> rfl) | (rcases hv with rfl | rfl <;> rfl) | (subst hv; rfl) | exact hv.elim) (Nat.le_of_ble_eq_true rfl) (fun X hxl hxk C F N => ?_)
  subst hxl hxk
  show V X (qS (xK X) h) 0 [some (.ref (h 0))] [] g 0 0
  obtain ⟨h5, h8, hrow⟩ := id hH
  refine v_aload_n C dX6_undo_0 rfl ?_
  refine v_iconst (v := nI 0) C dX6_undo_1 (by decide) ?_
  refine v_puti C fl_X6_33 fw_X6_0 oi_qS_0_0 ⟨rfl, rfl⟩ dX6_undo_2 ?_
  refine V.stt (g2 := tg g 0) (rfl) ?_
  refine v_aload_n C dX6_undo_5 rfl ?_
  refine v_aload_n C dX6_undo_6 rfl ?_
  refine v_getiQ (x := nI L.length) C fl_X6_204 oi_qS_0_5 (h5) dX6_undo_7 ?_
  refine v_if_ne C 17 dX6_undo_10 (by decide) (fun c10 => ?_) (fun c10 => ?_)
  · have hL0 : ¬ L.length = 0 := fun z => c10 (by rw [z]; rfl)
    have hbe : nI 0 = bI L.isEmpty := by
      cases L with
      | nil => exact absurd rfl hL0
      | cons x L2 => rfl
    refine v_iconst (v := nI 0) C dX6_undo_17 (by decide) ?_
    refine V.eqs (st2 := [.int (bI L.isEmpty), .ref (h 0)]) ?_ (congrArg (fun z => [Value.int z, Value.ref (h 0)]) hbe)
    refine v_iconst (v := nI 1) C dX6_undo_18 (by decide) ?_
    refine v_callVi C (c_X6_refuse hl (b := L.isEmpty) (k := 1) (by decide) (by decide)) ym_X6_refuse ml_X6_40 emb_id_qS rfl rfl rfl rfl rfl dX6_undo_19 (Nat.le_of_ble_eq_true rfl) (Nat.le_of_ble_eq_true rfl) (Nat.le_of_ble_eq_true rfl) (Nat.le_of_ble_eq_true rfl) (fun _ _ hu => hu.elim) (fun r u hu => ?_)
    obtain ⟨rfl, hu⟩ := hu
    subst u
    refine v_if_eqB C 27 dX6_undo_22 (by decide) (fun c22 => ?_) (fun c22 => ?_)
    · refine V.stt (g2 := tg g 0) (by rw [c22]; rfl) ?_
      have hL1 : 1 ≤ L.length := by
        cases L with
        | nil => cases c22
        | cons x L2 => exact Nat.succ_le_succ (Nat.zero_le _)
      refine v_aload_n C dX6_undo_27 rfl ?_
      refine v_dup C dX6_undo_28 rfl ?_
      refine v_getiQ (x := nI L.length) C fl_X6_204 oi_qS_0_5 (h5) dX6_undo_29 ?_
      refine v_iconst (v := nI 1) C dX6_undo_32 (by decide) ?_
      first | refine v_isubN C dX6_undo_33 (by omega) ?_ | refine v_isub C dX6_undo_33 ?_
      refine v_puti C fl_X6_204 fw_X6_5 oi_qS_0_5 ⟨rfl, rfl⟩ dX6_undo_34 ?_
      refine v_aload_n C dX6_undo_37 rfl ?_
      refine v_iconst (v := nI 1) C dX6_undo_38 (by decide) ?_
      refine v_aload_n C dX6_undo_39 rfl ?_
      refine v_getiQ (x := nI (L.length - 1)) C fl_X6_204 oi_qS_0_5 (rfl) dX6_undo_40 ?_
      first | refine v_iaddN C dX6_undo_43 ?_ | refine v_iadd C dX6_undo_43 ?_
      refine v_callVv C (c_X6_fetches hl (g := sG (tg g 0) 0 (upd (tg g 0 0) 5 (nI (L.length - 1)))) (j := 1 + (L.length - 1)) (by omega)) ym_X6_fetches ml_X6_201 emb_id_qS rfl rfl rfl rfl rfl dX6_undo_44 (Nat.le_of_ble_eq_true rfl) (Nat.le_of_ble_eq_true rfl) (Nat.le_of_ble_eq_true rfl) (Nat.le_of_ble_eq_true rfl) (fun _ _ hu => hu.elim) (fun r u hu => ?_)
      subst u
      refine v_aload_n C dX6_undo_47 rfl ?_
      refine v_getiQ (x := nI (L.length - 1)) C fl_X6_204 oi_qS_0_5 (rfl) dX6_undo_48 ?_
      refine v_iret C F (by first | rfl | exact bI_nar _) dX6_undo_51 (Nat.le_of_ble_eq_true rfl) (Nat.le_of_ble_eq_true rfl) ?_
      refine ⟨fun _ => ⟨rfl, ?_⟩, fun z => absurd (by rw [c22]; rfl) z⟩
      cases L with
      | nil => cases c22
      | cons x L2 =>
        have hr0 := hrow 0 (Nat.succ_pos _)
        refine ⟨x, L2, _, rfl, by unfold tg; rw [sG_sG]; rfl, RowR.mono hr0 (fun k hk => ?_) (hEL x List.mem_cons_self)⟩
        rw [mix_in hk]
        show g 2 (640 * (1 + ((x :: L2).length - 1)) + k) = g 2 (640 * ((x :: L2).length - 0) + k)
        exact congrArg (g 2) (by rw [List.length_cons]; omega)
    · refine V.stt (g2 := tg g 1) (by rw [c22]; rfl) ?_
      refine v_iconst (v := nI 0) C dX6_undo_25 (by decide) ?_
      refine v_iret C F (by first | rfl | exact bI_nar _) dX6_undo_26 (Nat.le_of_ble_eq_true rfl) (Nat.le_of_ble_eq_true rfl) ?_
      exact ⟨fun z => absurd z (by rw [c22]; decide), fun _ => rfl⟩
  · have hL0 : L.length = 0 := nI_inj (b := 0) (by omega) (by omega) c10
    have hbe : nI 1 = bI L.isEmpty := by
      rw [List.eq_nil_of_length_eq_zero hL0]; rfl
    refine v_iconst (v := nI 1) C dX6_undo_13 (by decide) ?_
    refine v_goto C 18 dX6_undo_14 (by decide) ?_
    refine V.eqs (st2 := [.int (bI L.isEmpty), .ref (h 0)]) ?_ (congrArg (fun z => [Value.int z, Value.ref (h 0)]) hbe)
    refine v_iconst (v := nI 1) C dX6_undo_18 (by decide) ?_
    refine v_callVi C (c_X6_refuse hl (b := L.isEmpty) (k := 1) (by decide) (by decide)) ym_X6_refuse ml_X6_40 emb_id_qS rfl rfl rfl rfl rfl dX6_undo_19 (Nat.le_of_ble_eq_true rfl) (Nat.le_of_ble_eq_true rfl) (Nat.le_of_ble_eq_true rfl) (Nat.le_of_ble_eq_true rfl) (fun _ _ hu => hu.elim) (fun r u hu => ?_)
    obtain ⟨rfl, hu⟩ := hu
    subst u
    refine v_if_eqB C 27 dX6_undo_22 (by decide) (fun c22 => ?_) (fun c22 => ?_)
    · refine V.stt (g2 := tg g 0) (by rw [c22]; rfl) ?_
      have hL1 : 1 ≤ L.length := by
        cases L with
        | nil => cases c22
        | cons x L2 => exact Nat.succ_le_succ (Nat.zero_le _)
      refine v_aload_n C dX6_undo_27 rfl ?_
      refine v_dup C dX6_undo_28 rfl ?_
      refine v_getiQ (x := nI L.length) C fl_X6_204 oi_qS_0_5 (h5) dX6_undo_29 ?_
      refine v_iconst (v := nI 1) C dX6_undo_32 (by decide) ?_
      first | refine v_isubN C dX6_undo_33 (by omega) ?_ | refine v_isub C dX6_undo_33 ?_
      refine v_puti C fl_X6_204 fw_X6_5 oi_qS_0_5 ⟨rfl, rfl⟩ dX6_undo_34 ?_
      refine v_aload_n C dX6_undo_37 rfl ?_
      refine v_iconst (v := nI 1) C dX6_undo_38 (by decide) ?_
      refine v_aload_n C dX6_undo_39 rfl ?_
      refine v_getiQ (x := nI (L.length - 1)) C fl_X6_204 oi_qS_0_5 (rfl) dX6_undo_40 ?_
      first | refine v_iaddN C dX6_undo_43 ?_ | refine v_iadd C dX6_undo_43 ?_
      refine v_callVv C (c_X6_fetches hl (g := sG (tg g 0) 0 (upd (tg g 0 0) 5 (nI (L.length - 1)))) (j := 1 + (L.length - 1)) (by omega)) ym_X6_fetches ml_X6_201 emb_id_qS rfl rfl rfl rfl rfl dX6_undo_44 (Nat.le_of_ble_eq_true rfl) (Nat.le_of_ble_eq_true rfl) (Nat.le_of_ble_eq_true rfl) (Nat.le_of_ble_eq_true rfl) (fun _ _ hu => hu.elim) (fun r u hu => ?_)
      subst u
      refine v_aload_n C dX6_undo_47 rfl ?_
      refine v_getiQ (x := nI (L.length - 1)) C fl_X6_204 oi_qS_0_5 (rfl) dX6_undo_48 ?_
      refine v_iret C F (by first | rfl | exact bI_nar _) dX6_undo_51 (Nat.le_of_ble_eq_true rfl) (Nat.le_of_ble_eq_true rfl) ?_
      refine ⟨fun _ => ⟨rfl, ?_⟩, fun z => absurd (by rw [c22]; rfl) z⟩
      cases L with
      | nil => cases c22
      | cons x L2 =>
        have hr0 := hrow 0 (Nat.succ_pos _)
        refine ⟨x, L2, _, rfl, by unfold tg; rw [sG_sG]; rfl, RowR.mono hr0 (fun k hk => ?_) (hEL x List.mem_cons_self)⟩
        rw [mix_in hk]
        show g 2 (640 * (1 + ((x :: L2).length - 1)) + k) = g 2 (640 * ((x :: L2).length - 0) + k)
        exact congrArg (g 2) (by rw [List.length_cons]; omega)
    · refine V.stt (g2 := tg g 1) (by rw [c22]; rfl) ?_
      refine v_iconst (v := nI 0) C dX6_undo_25 (by decide) ?_
      refine v_iret C F (by first | rfl | exact bI_nar _) dX6_undo_26 (Nat.le_of_ble_eq_true rfl) (Nat.le_of_ble_eq_true rfl) ?_
      exact ⟨fun z => absurd z (by rw [c22]; decide), fun _ => rfl⟩
set_option maxHeartbeats 16000000 in
theorem c_X6_save {l : Launch} (hl : l.stackTraces = false) {κ : Kp} {h : Nat → Nat} {g : G} {m : Mg} {n c : Nat} {k : Int32} (hQ : QMm n m g) (hW : WM n c m) : Ct SS MM l κ yX6_save cX6_save 2 (some FieldType.int) 2 0 0 [.ref (h 0), .int k] (qS κ h) g ri (fun r u => ((cdL [(decide (n = 0), 1), (!inB k 0 1, 2)]) = 0 → r = nI (cntG (owb m) 0 n) ∧ u = sG (sG (tg g 0) 2 (kpP (g 2) (g 1) (9 + tN k) 640)) 3 (upd (g 3) (tN k) (nI 1))) ∧ (¬ (cdL [(decide (n = 0), 1), (!inB k 0 1, 2)]) = 0 → u = tg g (cdL [(decide (n = 0), 1), (!inB k 0 1, 2)]))) (fun _ _ => False) := by
  refine Ct.of (own := RX6) (by decide) rfl hl (by intro v hv; simp only [List.mem_cons, List.not_mem_nil, or_false] at hv; first | (rcases hv with rfl | rfl | rfl | rfl | rfl | rfl <;> rfl) | (rcases hv with rfl | rfl | rfl | rfl | rfl <;> rfl) | (rcases hv with rfl | rfl | rfl | rfl <;> rfl) | (rcases hv with rfl | rfl | rfl <;> rfl) | (rcases hv with rfl | rfl <;> rfl) | (subst hv; rfl) | exact hv.elim) (Nat.le_of_ble_eq_true rfl) (fun X hxl hxk C F N => ?_)
  subst hxl hxk
  show V X (qS (xK X) h) 0 [some (.ref (h 0)), some (.int k)] [] g 0 0
  obtain ⟨hm, hs, h96, hRR⟩ := id hQ
  obtain ⟨-, hn7, hMf⟩ := id hW
  refine v_aload_n C dX6_save_0 rfl ?_
  refine v_callVi C (c_X6_noMemory hl (n := n) hm) ym_X6_noMemory ml_X6_207 emb_id_qS rfl rfl rfl rfl rfl dX6_save_1 (Nat.le_of_ble_eq_true rfl) (Nat.le_of_ble_eq_true rfl) (Nat.le_of_ble_eq_true rfl) (Nat.le_of_ble_eq_true rfl) (fun _ _ hu => hu.elim) (fun r u hu => ?_)
  obtain ⟨rfl, hu⟩ := hu
  subst u
  refine v_if_neB C 29 dX6_save_4 (by decide) (fun c4 => ?_) (fun c4 => ?_)
  · have hz0 : n = 0 := of_decide_eq_true c4
    refine V.stt (g2 := tg g 1) (by rw [c4]; rfl) ?_
    refine v_iconst (v := nI 0) C dX6_save_29 (by decide) ?_
    refine v_iret C F (by first | rfl | exact bI_nar _) dX6_save_30 (Nat.le_of_ble_eq_true rfl) (Nat.le_of_ble_eq_true rfl) ?_
    first
    | (refine ⟨fun _ => ⟨rfl, ?_⟩, fun z => absurd ?_ z⟩; (rw [t_j]); (simp [cdL, hn0, c26]); done)
    | (refine ⟨fun z => absurd z ?_, fun _ => ?_⟩; (simp [cdL, hz0]); (simp [cdL, hz0]); done)
    | (refine ⟨fun z => absurd z ?_, fun _ => ?_⟩; (simp [cdL, hn0, c26]); (simp [cdL, hn0, c26]); done)
  · have hn0 : ¬ n = 0 := of_decide_eq_false c4
    have hR := hRR hn0
    have hMI := hMf hn0
    obtain ⟨hI, hE, hLK, hn1, hSB, hBY, hPR⟩ := id hMI
    have hbd := band_ok hSB
    have hn := hI.1
    refine V.stt (g2 := tg g 0) (by rw [c4]; rfl) ?_
    refine v_aload_n C dX6_save_7 rfl ?_
    refine v_iload_n C dX6_save_8 rfl ?_
    refine v_iconst (v := nI 0) C dX6_save_9 (by decide) ?_
    refine v_iconst (v := nI 1) C dX6_save_10 (by decide) ?_
    refine v_callSi C (c_X6_in hl (v := k) (a := 0) (b := 1) (by decide) (by decide)) ys_X6_in rfl ml_X6_98 (emb_n fix_qS) rfl rfl rfl dX6_save_11 (Nat.le_of_ble_eq_true rfl) (Nat.le_of_ble_eq_true rfl) (Nat.le_of_ble_eq_true rfl) (Nat.le_of_ble_eq_true rfl) (fun _ _ hu => hu.elim) (fun r u hu => ?_)
    subst r
    refine v_if_neB C 21 dX6_save_14 (by decide) (fun c14 => ?_) (fun c14 => ?_)
    · refine v_iconst (v := nI 0) C dX6_save_21 (by decide) ?_
      refine V.eqs (st2 := [.int (bI (!inB k 0 1)), .ref (h 0)]) ?_ (congrArg (fun z => [Value.int z, Value.ref (h 0)]) (by first | exact bI_t (by simp [c14]) | exact bI_f (by simp [c14])))
      refine v_iconst (v := nI 2) C dX6_save_22 (by decide) ?_
      refine v_callVi C (c_X6_refuse hl (b := !inB k 0 1) (k := 2) (by decide) (by decide)) ym_X6_refuse ml_X6_40 emb_id_qS rfl rfl rfl rfl rfl dX6_save_23 (Nat.le_of_ble_eq_true rfl) (Nat.le_of_ble_eq_true rfl) (Nat.le_of_ble_eq_true rfl) (Nat.le_of_ble_eq_true rfl) (fun _ _ hu => hu.elim) (fun r u hu => ?_)
      obtain ⟨rfl, hu⟩ := hu
      subst u
      refine v_if_eqB C 31 dX6_save_26 (by decide) (fun c26 => ?_) (fun c26 => ?_)
      · refine V.stt (g2 := tg g 0) (by rw [c26]; rfl) ?_
        have hw4 : inB k 0 1 = true := by simpa using c26
        obtain ⟨j, -, hj_j, hk_j, e_j⟩ := in_at (a := 0) hw4
        subst e_j
        have t_j : tN (nI j) = j := tN_nI hk_j
        refine v_aload_n C dX6_save_31 rfl ?_
        refine v_bipush (v := nI 9) C dX6_save_32 (by decide) ?_
        refine v_iload_n C dX6_save_34 rfl ?_
        first | refine v_iaddN C dX6_save_35 ?_ | refine v_iadd C dX6_save_35 ?_
        refine v_callVv C (c_X6_keeps hl (g := tg g 0) (j := 9 + j) (by omega)) ym_X6_keeps ml_X6_195 emb_id_qS rfl rfl rfl rfl rfl dX6_save_36 (Nat.le_of_ble_eq_true rfl) (Nat.le_of_ble_eq_true rfl) (Nat.le_of_ble_eq_true rfl) (Nat.le_of_ble_eq_true rfl) (fun _ _ hu => hu.elim) (fun r u hu => ?_)
        subst u
        refine V.stt (g2 := (sG (tg g 0) 2 (kpP (g 2) (g 1) (9 + j) 640))) (rfl) ?_
        refine v_aload_n C dX6_save_39 rfl ?_
        refine v_getr C fl_X6_16 or_qS_0_6 dX6_save_40 ?_
        refine v_iload_n C dX6_save_43 rfl ?_
        refine v_iconst (v := nI 1) C dX6_save_44 (by decide) ?_
        refine v_zast C ar_qS_3 (by decide) _ ?_ rfl (by first | rfl | exact bI_vp _) dX6_save_45 ?_
        · omega
        refine V.stt (g2 := (sG (sG (tg g 0) 2 (kpP (g 2) (g 1) (9 + j) 640)) 3 (upd (g 3) j (nI 1)))) (rfl) ?_
        refine v_aload_n C dX6_save_46 rfl ?_
        refine v_callVi C (c_X6_owedNow hl (g := (sG (sG (tg g 0) 2 (kpP (g 2) (g 1) (9 + j) 640)) 3 (upd (g 3) j (nI 1)))) (m := m) (n := n) hR hs h96) ym_X6_owedNow ml_X6_236 emb_id_qS rfl rfl rfl rfl rfl dX6_save_47 (Nat.le_of_ble_eq_true rfl) (Nat.le_of_ble_eq_true rfl) (Nat.le_of_ble_eq_true rfl) (Nat.le_of_ble_eq_true rfl) (fun _ _ hu => hu.elim) (fun r u hu => ?_)
        obtain ⟨rfl, hu⟩ := hu
        subst u
        refine V.stt (g2 := (sG (sG (tg g 0) 2 (kpP (g 2) (g 1) (9 + j) 640)) 3 (upd (g 3) j (nI 1)))) (rfl) ?_
        refine v_iret C F (by first | rfl | exact bI_nar _) dX6_save_50 (Nat.le_of_ble_eq_true rfl) (Nat.le_of_ble_eq_true rfl) ?_
        first
        | (refine ⟨fun _ => ⟨rfl, ?_⟩, fun z => absurd ?_ z⟩; (rw [t_j]); (simp [cdL, hn0, c26]); done)
        | (refine ⟨fun z => absurd z ?_, fun _ => ?_⟩; (simp [cdL, hz0]); (simp [cdL, hz0]); done)
        | (refine ⟨fun z => absurd z ?_, fun _ => ?_⟩; (simp [cdL, hn0, c26]); (simp [cdL, hn0, c26]); done)
      · refine V.stt (g2 := tg g 2) (by rw [c26]; rfl) ?_
        refine v_iconst (v := nI 0) C dX6_save_29 (by decide) ?_
        refine v_iret C F (by first | rfl | exact bI_nar _) dX6_save_30 (Nat.le_of_ble_eq_true rfl) (Nat.le_of_ble_eq_true rfl) ?_
        first
        | (refine ⟨fun _ => ⟨rfl, ?_⟩, fun z => absurd ?_ z⟩; (rw [t_j]); (simp [cdL, hn0, c26]); done)
        | (refine ⟨fun z => absurd z ?_, fun _ => ?_⟩; (simp [cdL, hz0]); (simp [cdL, hz0]); done)
        | (refine ⟨fun z => absurd z ?_, fun _ => ?_⟩; (simp [cdL, hn0, c26]); (simp [cdL, hn0, c26]); done)
    · refine v_iconst (v := nI 1) C dX6_save_17 (by decide) ?_
      refine v_goto C 22 dX6_save_18 (by decide) ?_
      refine V.eqs (st2 := [.int (bI (!inB k 0 1)), .ref (h 0)]) ?_ (congrArg (fun z => [Value.int z, Value.ref (h 0)]) (by first | exact bI_t (by simp [c14]) | exact bI_f (by simp [c14])))
      refine v_iconst (v := nI 2) C dX6_save_22 (by decide) ?_
      refine v_callVi C (c_X6_refuse hl (b := !inB k 0 1) (k := 2) (by decide) (by decide)) ym_X6_refuse ml_X6_40 emb_id_qS rfl rfl rfl rfl rfl dX6_save_23 (Nat.le_of_ble_eq_true rfl) (Nat.le_of_ble_eq_true rfl) (Nat.le_of_ble_eq_true rfl) (Nat.le_of_ble_eq_true rfl) (fun _ _ hu => hu.elim) (fun r u hu => ?_)
      obtain ⟨rfl, hu⟩ := hu
      subst u
      refine v_if_eqB C 31 dX6_save_26 (by decide) (fun c26 => ?_) (fun c26 => ?_)
      · refine V.stt (g2 := tg g 0) (by rw [c26]; rfl) ?_
        have hw4 : inB k 0 1 = true := by simpa using c26
        obtain ⟨j, -, hj_j, hk_j, e_j⟩ := in_at (a := 0) hw4
        subst e_j
        have t_j : tN (nI j) = j := tN_nI hk_j
        refine v_aload_n C dX6_save_31 rfl ?_
        refine v_bipush (v := nI 9) C dX6_save_32 (by decide) ?_
        refine v_iload_n C dX6_save_34 rfl ?_
        first | refine v_iaddN C dX6_save_35 ?_ | refine v_iadd C dX6_save_35 ?_
        refine v_callVv C (c_X6_keeps hl (g := tg g 0) (j := 9 + j) (by omega)) ym_X6_keeps ml_X6_195 emb_id_qS rfl rfl rfl rfl rfl dX6_save_36 (Nat.le_of_ble_eq_true rfl) (Nat.le_of_ble_eq_true rfl) (Nat.le_of_ble_eq_true rfl) (Nat.le_of_ble_eq_true rfl) (fun _ _ hu => hu.elim) (fun r u hu => ?_)
        subst u
        refine V.stt (g2 := (sG (tg g 0) 2 (kpP (g 2) (g 1) (9 + j) 640))) (rfl) ?_
        refine v_aload_n C dX6_save_39 rfl ?_
        refine v_getr C fl_X6_16 or_qS_0_6 dX6_save_40 ?_
        refine v_iload_n C dX6_save_43 rfl ?_
        refine v_iconst (v := nI 1) C dX6_save_44 (by decide) ?_
        refine v_zast C ar_qS_3 (by decide) _ ?_ rfl (by first | rfl | exact bI_vp _) dX6_save_45 ?_
        · omega
        refine V.stt (g2 := (sG (sG (tg g 0) 2 (kpP (g 2) (g 1) (9 + j) 640)) 3 (upd (g 3) j (nI 1)))) (rfl) ?_
        refine v_aload_n C dX6_save_46 rfl ?_
        refine v_callVi C (c_X6_owedNow hl (g := (sG (sG (tg g 0) 2 (kpP (g 2) (g 1) (9 + j) 640)) 3 (upd (g 3) j (nI 1)))) (m := m) (n := n) hR hs h96) ym_X6_owedNow ml_X6_236 emb_id_qS rfl rfl rfl rfl rfl dX6_save_47 (Nat.le_of_ble_eq_true rfl) (Nat.le_of_ble_eq_true rfl) (Nat.le_of_ble_eq_true rfl) (Nat.le_of_ble_eq_true rfl) (fun _ _ hu => hu.elim) (fun r u hu => ?_)
        obtain ⟨rfl, hu⟩ := hu
        subst u
        refine V.stt (g2 := (sG (sG (tg g 0) 2 (kpP (g 2) (g 1) (9 + j) 640)) 3 (upd (g 3) j (nI 1)))) (rfl) ?_
        refine v_iret C F (by first | rfl | exact bI_nar _) dX6_save_50 (Nat.le_of_ble_eq_true rfl) (Nat.le_of_ble_eq_true rfl) ?_
        first
        | (refine ⟨fun _ => ⟨rfl, ?_⟩, fun z => absurd ?_ z⟩; (rw [t_j]); (simp [cdL, hn0, c26]); done)
        | (refine ⟨fun z => absurd z ?_, fun _ => ?_⟩; (simp [cdL, hz0]); (simp [cdL, hz0]); done)
        | (refine ⟨fun z => absurd z ?_, fun _ => ?_⟩; (simp [cdL, hn0, c26]); (simp [cdL, hn0, c26]); done)
      · refine V.stt (g2 := tg g 2) (by rw [c26]; rfl) ?_
        refine v_iconst (v := nI 0) C dX6_save_29 (by decide) ?_
        refine v_iret C F (by first | rfl | exact bI_nar _) dX6_save_30 (Nat.le_of_ble_eq_true rfl) (Nat.le_of_ble_eq_true rfl) ?_
        first
        | (refine ⟨fun _ => ⟨rfl, ?_⟩, fun z => absurd ?_ z⟩; (rw [t_j]); (simp [cdL, hn0, c26]); done)
        | (refine ⟨fun z => absurd z ?_, fun _ => ?_⟩; (simp [cdL, hz0]); (simp [cdL, hz0]); done)
        | (refine ⟨fun z => absurd z ?_, fun _ => ?_⟩; (simp [cdL, hn0, c26]); (simp [cdL, hn0, c26]); done)
set_option maxHeartbeats 16000000 in
theorem c_X6_restore {l : Launch} (hl : l.stackTraces = false) {κ : Kp} {h : Nat → Nat} {g : G} {n : Nat} {k : Int32} {kb : Nat → Bool} {sm : Nat → Mg} (hs : g 0 2 = nI n) (h96 : n ≤ 96) (hkb : ∀ j, j < 2 → g 3 j = bI (kb j)) (hkr : ∀ j, j < 2 → kb j = true → RowR (sm j) (fun i => g 2 (640 * (9 + j) + i)) ∧ EvOK (sm j)) : Ct SS MM l κ yX6_restore cX6_restore 2 (some FieldType.int) 2 0 0 [.ref (h 0), .int k] (qS κ h) g ri (fun r u => ((cdL [(!inB k 0 1, 1), (!kb (tN k), 2)]) = 0 → r = nI (cntG (owb (sm (tN k))) 0 n) ∧ ∃ f, RowR (sm (tN k)) f ∧ u = sG (sG g 0 (upd (upd (g 0) 0 (nI 0)) 5 (nI 0))) 1 f) ∧ (¬ (cdL [(!inB k 0 1, 1), (!kb (tN k), 2)]) = 0 → u = tg g (cdL [(!inB k 0 1, 1), (!kb (tN k), 2)]))) (fun _ _ => False) := by
  refine Ct.of (own := RX6) (by decide) rfl hl (by intro v hv; simp only [List.mem_cons, List.not_mem_nil, or_false] at hv; first | (rcases hv with rfl | rfl | rfl | rfl | rfl | rfl <;> rfl) | (rcases hv with rfl | rfl | rfl | rfl | rfl <;> rfl) | (rcases hv with rfl | rfl | rfl | rfl <;> rfl) | (rcases hv with rfl | rfl | rfl <;> rfl) | (rcases hv with rfl | rfl <;> rfl) | (subst hv; rfl) | exact hv.elim) (Nat.le_of_ble_eq_true rfl) (fun X hxl hxk C F N => ?_)
  subst hxl hxk
  show V X (qS (xK X) h) 0 [some (.ref (h 0)), some (.int k)] [] g 0 0
  refine v_aload_n C dX6_restore_0 rfl ?_
  refine v_iconst (v := nI 0) C dX6_restore_1 (by decide) ?_
  refine v_puti C fl_X6_33 fw_X6_0 oi_qS_0_0 ⟨rfl, rfl⟩ dX6_restore_2 ?_
  refine V.stt (g2 := tg g 0) (rfl) ?_
  refine v_aload_n C dX6_restore_5 rfl ?_
  refine v_iload_n C dX6_restore_6 rfl ?_
  refine v_iconst (v := nI 0) C dX6_restore_7 (by decide) ?_
  refine v_iconst (v := nI 1) C dX6_restore_8 (by decide) ?_
  refine v_callSi C (c_X6_in hl (v := k) (a := 0) (b := 1) (by decide) (by decide)) ys_X6_in rfl ml_X6_98 (emb_n fix_qS) rfl rfl rfl dX6_restore_9 (Nat.le_of_ble_eq_true rfl) (Nat.le_of_ble_eq_true rfl) (Nat.le_of_ble_eq_true rfl) (Nat.le_of_ble_eq_true rfl) (fun _ _ hu => hu.elim) (fun r u hu => ?_)
  subst r
  refine V.stt (g2 := tg g 0) (rfl) ?_
  refine v_if_neB C 19 dX6_restore_12 (by decide) (fun c12 => ?_) (fun c12 => ?_)
  · refine v_iconst (v := nI 0) C dX6_restore_19 (by decide) ?_
    refine V.eqs (st2 := [.int (bI (!inB k 0 1)), .ref (h 0)]) ?_ (congrArg (fun z => [Value.int z, Value.ref (h 0)]) (by first | exact bI_t (by simp [c12]) | exact bI_f (by simp [c12])))
    refine v_iconst (v := nI 1) C dX6_restore_20 (by decide) ?_
    refine v_callVi C (c_X6_refuse hl (b := !inB k 0 1) (k := 1) (by decide) (by decide)) ym_X6_refuse ml_X6_40 emb_id_qS rfl rfl rfl rfl rfl dX6_restore_21 (Nat.le_of_ble_eq_true rfl) (Nat.le_of_ble_eq_true rfl) (Nat.le_of_ble_eq_true rfl) (Nat.le_of_ble_eq_true rfl) (fun _ _ hu => hu.elim) (fun r u hu => ?_)
    obtain ⟨rfl, hu⟩ := hu
    subst u
    refine v_if_neB C 49 dX6_restore_24 (by decide) (fun c24 => ?_) (fun c24 => ?_)
    · refine V.stt (g2 := tg g 1) (by rw [c24]; rfl) ?_
      refine v_iconst (v := nI 0) C dX6_restore_49 (by decide) ?_
      refine v_iret C F (by first | rfl | exact bI_nar _) dX6_restore_50 (Nat.le_of_ble_eq_true rfl) (Nat.le_of_ble_eq_true rfl) ?_
      first
      | (refine ⟨fun z => absurd z ?_, fun _ => ?_⟩; (rw [t_j, hw4]; simp [cdL, c46]); (rw [t_j, hw4]; simp [cdL, c46]); done)
      | (refine ⟨fun z => absurd z ?_, fun _ => ?_⟩; (simp [cdL, c24]); (simp [cdL, c24]); done)
    · refine V.stt (g2 := tg g 0) (by rw [c24]; rfl) ?_
      have hw4 : inB k 0 1 = true := by simpa using c24
      obtain ⟨j, -, hj_j, hk_j, e_j⟩ := in_at (a := 0) hw4
      subst e_j
      have t_j : tN (nI j) = j := tN_nI hk_j
      refine v_aload_n C dX6_restore_27 rfl ?_
      refine v_aload_n C dX6_restore_28 rfl ?_
      refine v_getr C fl_X6_16 or_qS_0_6 dX6_restore_29 ?_
      refine v_iload_n C dX6_restore_32 rfl ?_
      refine v_zaldQ (x := bI (kb j)) C ar_qS_3 (by decide) _ (hkb j (by omega)) ?_ rfl dX6_restore_33 ?_
      · omega
      refine v_if_neB C 41 dX6_restore_34 (by decide) (fun c34 => ?_) (fun c34 => ?_)
      · refine v_iconst (v := nI 0) C dX6_restore_41 (by decide) ?_
        refine V.eqs (st2 := [.int (bI (!kb j)), .ref (h 0)]) ?_ (congrArg (fun z => [Value.int z, Value.ref (h 0)]) (by first | exact bI_t (by simp [c34]) | exact bI_f (by simp [c34])))
        refine v_iconst (v := nI 2) C dX6_restore_42 (by decide) ?_
        refine v_callVi C (c_X6_refuse hl (b := !kb j) (k := 2) (by decide) (by decide)) ym_X6_refuse ml_X6_40 emb_id_qS rfl rfl rfl rfl rfl dX6_restore_43 (Nat.le_of_ble_eq_true rfl) (Nat.le_of_ble_eq_true rfl) (Nat.le_of_ble_eq_true rfl) (Nat.le_of_ble_eq_true rfl) (fun _ _ hu => hu.elim) (fun r u hu => ?_)
        obtain ⟨rfl, hu⟩ := hu
        subst u
        refine v_if_eqB C 51 dX6_restore_46 (by decide) (fun c46 => ?_) (fun c46 => ?_)
        · refine V.stt (g2 := tg g 0) (by rw [c46]; rfl) ?_
          have hkj : kb j = true := by simpa using c46
          have hRj := hkr j (by omega) hkj
          have hRf : RowR (sm j) (mix 640 (fun i => g 2 (640 * (9 + j) + i)) (g 1)) := RowR.mono hRj.1 (fun k hk => mix_in hk) hRj.2
          refine v_aload_n C dX6_restore_51 rfl ?_
          refine v_bipush (v := nI 9) C dX6_restore_52 (by decide) ?_
          refine v_iload_n C dX6_restore_54 rfl ?_
          first | refine v_iaddN C dX6_restore_55 ?_ | refine v_iadd C dX6_restore_55 ?_
          refine v_callVv C (c_X6_fetches hl (g := tg g 0) (j := 9 + j) (by omega)) ym_X6_fetches ml_X6_201 emb_id_qS rfl rfl rfl rfl rfl dX6_restore_56 (Nat.le_of_ble_eq_true rfl) (Nat.le_of_ble_eq_true rfl) (Nat.le_of_ble_eq_true rfl) (Nat.le_of_ble_eq_true rfl) (fun _ _ hu => hu.elim) (fun r u hu => ?_)
          subst u
          refine v_aload_n C dX6_restore_59 rfl ?_
          refine v_iconst (v := nI 0) C dX6_restore_60 (by decide) ?_
          refine v_puti C fl_X6_204 fw_X6_5 oi_qS_0_5 ⟨rfl, rfl⟩ dX6_restore_61 ?_
          refine V.stt (g2 := (sG (sG g 0 (upd (upd (g 0) 0 (nI 0)) 5 (nI 0))) 1 (mix 640 (fun i => g 2 (640 * (9 + j) + i)) (g 1)))) (by rw [sG_comm (a := 1) (b := 0) (by decide)]; unfold tg; rw [sG_sG]; rfl) ?_
          refine v_aload_n C dX6_restore_64 rfl ?_
          refine v_callVi C (c_X6_owedNow hl (g := sG (sG g 0 (upd (upd (g 0) 0 (nI 0)) 5 (nI 0))) 1 (mix 640 (fun i => g 2 (640 * (9 + j) + i)) (g 1))) (m := sm j) (n := n) hRf hs h96) ym_X6_owedNow ml_X6_236 emb_id_qS rfl rfl rfl rfl rfl dX6_restore_65 (Nat.le_of_ble_eq_true rfl) (Nat.le_of_ble_eq_true rfl) (Nat.le_of_ble_eq_true rfl) (Nat.le_of_ble_eq_true rfl) (fun _ _ hu => hu.elim) (fun r u hu => ?_)
          obtain ⟨rfl, hu⟩ := hu
          subst u
          refine v_iret C F (by first | rfl | exact bI_nar _) dX6_restore_68 (Nat.le_of_ble_eq_true rfl) (Nat.le_of_ble_eq_true rfl) ?_
          refine ⟨fun _ => ⟨by rw [t_j], _, (by rw [t_j]; exact hRf), rfl⟩, fun z => absurd ?_ z⟩
          rw [t_j, hw4, hkj]
          rfl
        · refine V.stt (g2 := tg g 2) (by rw [c46]; rfl) ?_
          refine v_iconst (v := nI 0) C dX6_restore_49 (by decide) ?_
          refine v_iret C F (by first | rfl | exact bI_nar _) dX6_restore_50 (Nat.le_of_ble_eq_true rfl) (Nat.le_of_ble_eq_true rfl) ?_
          first
          | (refine ⟨fun z => absurd z ?_, fun _ => ?_⟩; (rw [t_j, hw4]; simp [cdL, c46]); (rw [t_j, hw4]; simp [cdL, c46]); done)
          | (refine ⟨fun z => absurd z ?_, fun _ => ?_⟩; (simp [cdL, c24]); (simp [cdL, c24]); done)
      · refine v_iconst (v := nI 1) C dX6_restore_37 (by decide) ?_
        refine v_goto C 42 dX6_restore_38 (by decide) ?_
        refine V.eqs (st2 := [.int (bI (!kb j)), .ref (h 0)]) ?_ (congrArg (fun z => [Value.int z, Value.ref (h 0)]) (by first | exact bI_t (by simp [c34]) | exact bI_f (by simp [c34])))
        refine v_iconst (v := nI 2) C dX6_restore_42 (by decide) ?_
        refine v_callVi C (c_X6_refuse hl (b := !kb j) (k := 2) (by decide) (by decide)) ym_X6_refuse ml_X6_40 emb_id_qS rfl rfl rfl rfl rfl dX6_restore_43 (Nat.le_of_ble_eq_true rfl) (Nat.le_of_ble_eq_true rfl) (Nat.le_of_ble_eq_true rfl) (Nat.le_of_ble_eq_true rfl) (fun _ _ hu => hu.elim) (fun r u hu => ?_)
        obtain ⟨rfl, hu⟩ := hu
        subst u
        refine v_if_eqB C 51 dX6_restore_46 (by decide) (fun c46 => ?_) (fun c46 => ?_)
        · refine V.stt (g2 := tg g 0) (by rw [c46]; rfl) ?_
          have hkj : kb j = true := by simpa using c46
          have hRj := hkr j (by omega) hkj
          have hRf : RowR (sm j) (mix 640 (fun i => g 2 (640 * (9 + j) + i)) (g 1)) := RowR.mono hRj.1 (fun k hk => mix_in hk) hRj.2
          refine v_aload_n C dX6_restore_51 rfl ?_
          refine v_bipush (v := nI 9) C dX6_restore_52 (by decide) ?_
          refine v_iload_n C dX6_restore_54 rfl ?_
          first | refine v_iaddN C dX6_restore_55 ?_ | refine v_iadd C dX6_restore_55 ?_
          refine v_callVv C (c_X6_fetches hl (g := tg g 0) (j := 9 + j) (by omega)) ym_X6_fetches ml_X6_201 emb_id_qS rfl rfl rfl rfl rfl dX6_restore_56 (Nat.le_of_ble_eq_true rfl) (Nat.le_of_ble_eq_true rfl) (Nat.le_of_ble_eq_true rfl) (Nat.le_of_ble_eq_true rfl) (fun _ _ hu => hu.elim) (fun r u hu => ?_)
          subst u
          refine v_aload_n C dX6_restore_59 rfl ?_
          refine v_iconst (v := nI 0) C dX6_restore_60 (by decide) ?_
          refine v_puti C fl_X6_204 fw_X6_5 oi_qS_0_5 ⟨rfl, rfl⟩ dX6_restore_61 ?_
          refine V.stt (g2 := (sG (sG g 0 (upd (upd (g 0) 0 (nI 0)) 5 (nI 0))) 1 (mix 640 (fun i => g 2 (640 * (9 + j) + i)) (g 1)))) (by rw [sG_comm (a := 1) (b := 0) (by decide)]; unfold tg; rw [sG_sG]; rfl) ?_
          refine v_aload_n C dX6_restore_64 rfl ?_
          refine v_callVi C (c_X6_owedNow hl (g := sG (sG g 0 (upd (upd (g 0) 0 (nI 0)) 5 (nI 0))) 1 (mix 640 (fun i => g 2 (640 * (9 + j) + i)) (g 1))) (m := sm j) (n := n) hRf hs h96) ym_X6_owedNow ml_X6_236 emb_id_qS rfl rfl rfl rfl rfl dX6_restore_65 (Nat.le_of_ble_eq_true rfl) (Nat.le_of_ble_eq_true rfl) (Nat.le_of_ble_eq_true rfl) (Nat.le_of_ble_eq_true rfl) (fun _ _ hu => hu.elim) (fun r u hu => ?_)
          obtain ⟨rfl, hu⟩ := hu
          subst u
          refine v_iret C F (by first | rfl | exact bI_nar _) dX6_restore_68 (Nat.le_of_ble_eq_true rfl) (Nat.le_of_ble_eq_true rfl) ?_
          refine ⟨fun _ => ⟨by rw [t_j], _, (by rw [t_j]; exact hRf), rfl⟩, fun z => absurd ?_ z⟩
          rw [t_j, hw4, hkj]
          rfl
        · refine V.stt (g2 := tg g 2) (by rw [c46]; rfl) ?_
          refine v_iconst (v := nI 0) C dX6_restore_49 (by decide) ?_
          refine v_iret C F (by first | rfl | exact bI_nar _) dX6_restore_50 (Nat.le_of_ble_eq_true rfl) (Nat.le_of_ble_eq_true rfl) ?_
          first
          | (refine ⟨fun z => absurd z ?_, fun _ => ?_⟩; (rw [t_j, hw4]; simp [cdL, c46]); (rw [t_j, hw4]; simp [cdL, c46]); done)
          | (refine ⟨fun z => absurd z ?_, fun _ => ?_⟩; (simp [cdL, c24]); (simp [cdL, c24]); done)
  · refine v_iconst (v := nI 1) C dX6_restore_15 (by decide) ?_
    refine v_goto C 20 dX6_restore_16 (by decide) ?_
    refine V.eqs (st2 := [.int (bI (!inB k 0 1)), .ref (h 0)]) ?_ (congrArg (fun z => [Value.int z, Value.ref (h 0)]) (by first | exact bI_t (by simp [c12]) | exact bI_f (by simp [c12])))
    refine v_iconst (v := nI 1) C dX6_restore_20 (by decide) ?_
    refine v_callVi C (c_X6_refuse hl (b := !inB k 0 1) (k := 1) (by decide) (by decide)) ym_X6_refuse ml_X6_40 emb_id_qS rfl rfl rfl rfl rfl dX6_restore_21 (Nat.le_of_ble_eq_true rfl) (Nat.le_of_ble_eq_true rfl) (Nat.le_of_ble_eq_true rfl) (Nat.le_of_ble_eq_true rfl) (fun _ _ hu => hu.elim) (fun r u hu => ?_)
    obtain ⟨rfl, hu⟩ := hu
    subst u
    refine v_if_neB C 49 dX6_restore_24 (by decide) (fun c24 => ?_) (fun c24 => ?_)
    · refine V.stt (g2 := tg g 1) (by rw [c24]; rfl) ?_
      refine v_iconst (v := nI 0) C dX6_restore_49 (by decide) ?_
      refine v_iret C F (by first | rfl | exact bI_nar _) dX6_restore_50 (Nat.le_of_ble_eq_true rfl) (Nat.le_of_ble_eq_true rfl) ?_
      first
      | (refine ⟨fun z => absurd z ?_, fun _ => ?_⟩; (rw [t_j, hw4]; simp [cdL, c46]); (rw [t_j, hw4]; simp [cdL, c46]); done)
      | (refine ⟨fun z => absurd z ?_, fun _ => ?_⟩; (simp [cdL, c24]); (simp [cdL, c24]); done)
    · refine V.stt (g2 := tg g 0) (by rw [c24]; rfl) ?_
      have hw4 : inB k 0 1 = true := by simpa using c24
      obtain ⟨j, -, hj_j, hk_j, e_j⟩ := in_at (a := 0) hw4
      subst e_j
      have t_j : tN (nI j) = j := tN_nI hk_j
      refine v_aload_n C dX6_restore_27 rfl ?_
      refine v_aload_n C dX6_restore_28 rfl ?_
      refine v_getr C fl_X6_16 or_qS_0_6 dX6_restore_29 ?_
      refine v_iload_n C dX6_restore_32 rfl ?_
      refine v_zaldQ (x := bI (kb j)) C ar_qS_3 (by decide) _ (hkb j (by omega)) ?_ rfl dX6_restore_33 ?_
      · omega
      refine v_if_neB C 41 dX6_restore_34 (by decide) (fun c34 => ?_) (fun c34 => ?_)
      · refine v_iconst (v := nI 0) C dX6_restore_41 (by decide) ?_
        refine V.eqs (st2 := [.int (bI (!kb j)), .ref (h 0)]) ?_ (congrArg (fun z => [Value.int z, Value.ref (h 0)]) (by first | exact bI_t (by simp [c34]) | exact bI_f (by simp [c34])))
        refine v_iconst (v := nI 2) C dX6_restore_42 (by decide) ?_
        refine v_callVi C (c_X6_refuse hl (b := !kb j) (k := 2) (by decide) (by decide)) ym_X6_refuse ml_X6_40 emb_id_qS rfl rfl rfl rfl rfl dX6_restore_43 (Nat.le_of_ble_eq_true rfl) (Nat.le_of_ble_eq_true rfl) (Nat.le_of_ble_eq_true rfl) (Nat.le_of_ble_eq_true rfl) (fun _ _ hu => hu.elim) (fun r u hu => ?_)
        obtain ⟨rfl, hu⟩ := hu
        subst u
        refine v_if_eqB C 51 dX6_restore_46 (by decide) (fun c46 => ?_) (fun c46 => ?_)
        · refine V.stt (g2 := tg g 0) (by rw [c46]; rfl) ?_
          have hkj : kb j = true := by simpa using c46
          have hRj := hkr j (by omega) hkj
          have hRf : RowR (sm j) (mix 640 (fun i => g 2 (640 * (9 + j) + i)) (g 1)) := RowR.mono hRj.1 (fun k hk => mix_in hk) hRj.2
          refine v_aload_n C dX6_restore_51 rfl ?_
          refine v_bipush (v := nI 9) C dX6_restore_52 (by decide) ?_
          refine v_iload_n C dX6_restore_54 rfl ?_
          first | refine v_iaddN C dX6_restore_55 ?_ | refine v_iadd C dX6_restore_55 ?_
          refine v_callVv C (c_X6_fetches hl (g := tg g 0) (j := 9 + j) (by omega)) ym_X6_fetches ml_X6_201 emb_id_qS rfl rfl rfl rfl rfl dX6_restore_56 (Nat.le_of_ble_eq_true rfl) (Nat.le_of_ble_eq_true rfl) (Nat.le_of_ble_eq_true rfl) (Nat.le_of_ble_eq_true rfl) (fun _ _ hu => hu.elim) (fun r u hu => ?_)
          subst u
          refine v_aload_n C dX6_restore_59 rfl ?_
          refine v_iconst (v := nI 0) C dX6_restore_60 (by decide) ?_
          refine v_puti C fl_X6_204 fw_X6_5 oi_qS_0_5 ⟨rfl, rfl⟩ dX6_restore_61 ?_
          refine V.stt (g2 := (sG (sG g 0 (upd (upd (g 0) 0 (nI 0)) 5 (nI 0))) 1 (mix 640 (fun i => g 2 (640 * (9 + j) + i)) (g 1)))) (by rw [sG_comm (a := 1) (b := 0) (by decide)]; unfold tg; rw [sG_sG]; rfl) ?_
          refine v_aload_n C dX6_restore_64 rfl ?_
          refine v_callVi C (c_X6_owedNow hl (g := sG (sG g 0 (upd (upd (g 0) 0 (nI 0)) 5 (nI 0))) 1 (mix 640 (fun i => g 2 (640 * (9 + j) + i)) (g 1))) (m := sm j) (n := n) hRf hs h96) ym_X6_owedNow ml_X6_236 emb_id_qS rfl rfl rfl rfl rfl dX6_restore_65 (Nat.le_of_ble_eq_true rfl) (Nat.le_of_ble_eq_true rfl) (Nat.le_of_ble_eq_true rfl) (Nat.le_of_ble_eq_true rfl) (fun _ _ hu => hu.elim) (fun r u hu => ?_)
          obtain ⟨rfl, hu⟩ := hu
          subst u
          refine v_iret C F (by first | rfl | exact bI_nar _) dX6_restore_68 (Nat.le_of_ble_eq_true rfl) (Nat.le_of_ble_eq_true rfl) ?_
          refine ⟨fun _ => ⟨by rw [t_j], _, (by rw [t_j]; exact hRf), rfl⟩, fun z => absurd ?_ z⟩
          rw [t_j, hw4, hkj]
          rfl
        · refine V.stt (g2 := tg g 2) (by rw [c46]; rfl) ?_
          refine v_iconst (v := nI 0) C dX6_restore_49 (by decide) ?_
          refine v_iret C F (by first | rfl | exact bI_nar _) dX6_restore_50 (Nat.le_of_ble_eq_true rfl) (Nat.le_of_ble_eq_true rfl) ?_
          first
          | (refine ⟨fun z => absurd z ?_, fun _ => ?_⟩; (rw [t_j, hw4]; simp [cdL, c46]); (rw [t_j, hw4]; simp [cdL, c46]); done)
          | (refine ⟨fun z => absurd z ?_, fun _ => ?_⟩; (simp [cdL, c24]); (simp [cdL, c24]); done)
      · refine v_iconst (v := nI 1) C dX6_restore_37 (by decide) ?_
        refine v_goto C 42 dX6_restore_38 (by decide) ?_
        refine V.eqs (st2 := [.int (bI (!kb j)), .ref (h 0)]) ?_ (congrArg (fun z => [Value.int z, Value.ref (h 0)]) (by first | exact bI_t (by simp [c34]) | exact bI_f (by simp [c34])))
        refine v_iconst (v := nI 2) C dX6_restore_42 (by decide) ?_
        refine v_callVi C (c_X6_refuse hl (b := !kb j) (k := 2) (by decide) (by decide)) ym_X6_refuse ml_X6_40 emb_id_qS rfl rfl rfl rfl rfl dX6_restore_43 (Nat.le_of_ble_eq_true rfl) (Nat.le_of_ble_eq_true rfl) (Nat.le_of_ble_eq_true rfl) (Nat.le_of_ble_eq_true rfl) (fun _ _ hu => hu.elim) (fun r u hu => ?_)
        obtain ⟨rfl, hu⟩ := hu
        subst u
        refine v_if_eqB C 51 dX6_restore_46 (by decide) (fun c46 => ?_) (fun c46 => ?_)
        · refine V.stt (g2 := tg g 0) (by rw [c46]; rfl) ?_
          have hkj : kb j = true := by simpa using c46
          have hRj := hkr j (by omega) hkj
          have hRf : RowR (sm j) (mix 640 (fun i => g 2 (640 * (9 + j) + i)) (g 1)) := RowR.mono hRj.1 (fun k hk => mix_in hk) hRj.2
          refine v_aload_n C dX6_restore_51 rfl ?_
          refine v_bipush (v := nI 9) C dX6_restore_52 (by decide) ?_
          refine v_iload_n C dX6_restore_54 rfl ?_
          first | refine v_iaddN C dX6_restore_55 ?_ | refine v_iadd C dX6_restore_55 ?_
          refine v_callVv C (c_X6_fetches hl (g := tg g 0) (j := 9 + j) (by omega)) ym_X6_fetches ml_X6_201 emb_id_qS rfl rfl rfl rfl rfl dX6_restore_56 (Nat.le_of_ble_eq_true rfl) (Nat.le_of_ble_eq_true rfl) (Nat.le_of_ble_eq_true rfl) (Nat.le_of_ble_eq_true rfl) (fun _ _ hu => hu.elim) (fun r u hu => ?_)
          subst u
          refine v_aload_n C dX6_restore_59 rfl ?_
          refine v_iconst (v := nI 0) C dX6_restore_60 (by decide) ?_
          refine v_puti C fl_X6_204 fw_X6_5 oi_qS_0_5 ⟨rfl, rfl⟩ dX6_restore_61 ?_
          refine V.stt (g2 := (sG (sG g 0 (upd (upd (g 0) 0 (nI 0)) 5 (nI 0))) 1 (mix 640 (fun i => g 2 (640 * (9 + j) + i)) (g 1)))) (by rw [sG_comm (a := 1) (b := 0) (by decide)]; unfold tg; rw [sG_sG]; rfl) ?_
          refine v_aload_n C dX6_restore_64 rfl ?_
          refine v_callVi C (c_X6_owedNow hl (g := sG (sG g 0 (upd (upd (g 0) 0 (nI 0)) 5 (nI 0))) 1 (mix 640 (fun i => g 2 (640 * (9 + j) + i)) (g 1))) (m := sm j) (n := n) hRf hs h96) ym_X6_owedNow ml_X6_236 emb_id_qS rfl rfl rfl rfl rfl dX6_restore_65 (Nat.le_of_ble_eq_true rfl) (Nat.le_of_ble_eq_true rfl) (Nat.le_of_ble_eq_true rfl) (Nat.le_of_ble_eq_true rfl) (fun _ _ hu => hu.elim) (fun r u hu => ?_)
          obtain ⟨rfl, hu⟩ := hu
          subst u
          refine v_iret C F (by first | rfl | exact bI_nar _) dX6_restore_68 (Nat.le_of_ble_eq_true rfl) (Nat.le_of_ble_eq_true rfl) ?_
          refine ⟨fun _ => ⟨by rw [t_j], _, (by rw [t_j]; exact hRf), rfl⟩, fun z => absurd ?_ z⟩
          rw [t_j, hw4, hkj]
          rfl
        · refine V.stt (g2 := tg g 2) (by rw [c46]; rfl) ?_
          refine v_iconst (v := nI 0) C dX6_restore_49 (by decide) ?_
          refine v_iret C F (by first | rfl | exact bI_nar _) dX6_restore_50 (Nat.le_of_ble_eq_true rfl) (Nat.le_of_ble_eq_true rfl) ?_
          first
          | (refine ⟨fun z => absurd z ?_, fun _ => ?_⟩; (rw [t_j, hw4]; simp [cdL, c46]); (rw [t_j, hw4]; simp [cdL, c46]); done)
          | (refine ⟨fun z => absurd z ?_, fun _ => ?_⟩; (simp [cdL, c24]); (simp [cdL, c24]); done)
set_option maxHeartbeats 16000000 in
theorem c_X6_meanHops {l : Launch} (hl : l.stackTraces = false) {κ : Kp} {h : Nat → Nat} {g : G} {m : Mg} {n c : Nat} (hQ : QMm n m g) (hW : WM n c m) : Ct SS MM l κ yX6_meanHops cX6_meanHops 1 (some FieldType.double) 2 0 0 [.ref (h 0)] (qS κ h) g rd8 (fun r u => u = tg g (cdL [(decide (n = 0), 1)]) ∧ (cdL [(decide (n = 0), 1)] = 0 → r = mhV m)) (fun _ _ => False) := by
  refine Ct.of (own := RX6) (by decide) rfl hl (by intro v hv; simp only [List.mem_cons, List.not_mem_nil, or_false] at hv; first | (rcases hv with rfl | rfl | rfl | rfl | rfl | rfl <;> rfl) | (rcases hv with rfl | rfl | rfl | rfl | rfl <;> rfl) | (rcases hv with rfl | rfl | rfl | rfl <;> rfl) | (rcases hv with rfl | rfl | rfl <;> rfl) | (rcases hv with rfl | rfl <;> rfl) | (subst hv; rfl) | exact hv.elim) (Nat.le_of_ble_eq_true rfl) (fun X hxl hxk C F N => ?_)
  subst hxl hxk
  show V X (qS (xK X) h) 0 [some (.ref (h 0))] [] g 0 0
  obtain ⟨hm, hs, h96, hRR⟩ := id hQ
  obtain ⟨-, hn7, hMf⟩ := id hW
  refine v_aload_n C dX6_meanHops_0 rfl ?_
  refine v_callVi C (c_X6_noMemory hl (n := n) hm) ym_X6_noMemory ml_X6_207 emb_id_qS rfl rfl rfl rfl rfl dX6_meanHops_1 (Nat.le_of_ble_eq_true rfl) (Nat.le_of_ble_eq_true rfl) (Nat.le_of_ble_eq_true rfl) (Nat.le_of_ble_eq_true rfl) (fun _ _ hu => hu.elim) (fun r u hu => ?_)
  obtain ⟨rfl, hu⟩ := hu
  subst u
  refine v_if_neB C 18 dX6_meanHops_4 (by decide) (fun c4 => ?_) (fun c4 => ?_)
  · have hz0 : n = 0 := of_decide_eq_true c4
    refine V.stt (g2 := tg g 1) (by rw [c4]; rfl) ?_
    refine v_dconst0 C dX6_meanHops_18 ?_
    refine v_goto C 41 dX6_meanHops_19 (by decide) ?_
    refine v_dret C F dX6_meanHops_41 (Nat.le_of_ble_eq_true rfl) (Nat.le_of_ble_eq_true rfl) ?_
    first
    | (refine ⟨?_, fun _ => ?_⟩
       simp [cdL, hn0]
       first
       | exact (if_pos c15).symm
       | exact (if_neg c15).symm)
    | (refine ⟨?_, fun z => absurd z ?_⟩; (simp [cdL, hz0]); (simp [cdL, hz0]); done)
  · have hn0 : ¬ n = 0 := of_decide_eq_false c4
    have hR := hRR hn0
    have hMI := hMf hn0
    obtain ⟨hI, hE, hLK, hn1, hSB, hBY, hPR⟩ := id hMI
    have hbd := band_ok hSB
    have hn := hI.1
    refine V.stt (g2 := tg g 0) (by rw [c4]; rfl) ?_
    refine v_aload_n C dX6_meanHops_7 rfl ?_
    refine v_getr C fl_X6_7 or_qS_0_3 dX6_meanHops_8 ?_
    refine v_sipush (v := nI 398) C dX6_meanHops_11 (by decide) ?_
    refine v_ialdQ (x := m 6 8) C ar_qS_1 (by decide) _ (hR.a (k := 8) (by decide)) ?_ rfl dX6_meanHops_14 ?_
    · omega
    refine v_if_ne C 22 dX6_meanHops_15 (by decide) (fun c15 => ?_) (fun c15 => ?_)
    · refine v_aload_n C dX6_meanHops_22 rfl ?_
      refine v_getr C fl_X6_7 or_qS_0_3 dX6_meanHops_23 ?_
      refine v_sipush (v := nI 396) C dX6_meanHops_26 (by decide) ?_
      refine v_ialdQ (x := m 6 6) C ar_qS_1 (by decide) _ (hR.a (k := 6) (by decide)) ?_ rfl dX6_meanHops_29 ?_
      · omega
      refine v_i2d C dX6_meanHops_30 ?_
      refine v_aload_n C dX6_meanHops_31 rfl ?_
      refine v_getr C fl_X6_7 or_qS_0_3 dX6_meanHops_32 ?_
      refine v_sipush (v := nI 398) C dX6_meanHops_35 (by decide) ?_
      refine v_ialdQ (x := m 6 8) C ar_qS_1 (by decide) _ (hR.a (k := 8) (by decide)) ?_ rfl dX6_meanHops_38 ?_
      · omega
      refine v_i2d C dX6_meanHops_39 ?_
      refine v_ddiv C dX6_meanHops_40 ?_ ?_
      · exact fp_d c15
      refine v_dret C F dX6_meanHops_41 (Nat.le_of_ble_eq_true rfl) (Nat.le_of_ble_eq_true rfl) ?_
      first
      | (refine ⟨?_, fun _ => ?_⟩
         simp [cdL, hn0]
         first
         | exact (if_pos c15).symm
         | exact (if_neg c15).symm)
      | (refine ⟨?_, fun z => absurd z ?_⟩; (simp [cdL, hz0]); (simp [cdL, hz0]); done)
    · refine v_dconst0 C dX6_meanHops_18 ?_
      refine v_goto C 41 dX6_meanHops_19 (by decide) ?_
      refine v_dret C F dX6_meanHops_41 (Nat.le_of_ble_eq_true rfl) (Nat.le_of_ble_eq_true rfl) ?_
      first
      | (refine ⟨?_, fun _ => ?_⟩
         simp [cdL, hn0]
         first
         | exact (if_pos c15).symm
         | exact (if_neg c15).symm)
      | (refine ⟨?_, fun z => absurd z ?_⟩; (simp [cdL, hz0]); (simp [cdL, hz0]); done)
set_option maxHeartbeats 16000000 in
theorem c_X6_idleShare {l : Launch} (hl : l.stackTraces = false) {κ : Kp} {h : Nat → Nat} {g : G} {m : Mg} {n c : Nat} (hQ : QMm n m g) (hW : WM n c m) : Ct SS MM l κ yX6_idleShare cX6_idleShare 2 (some FieldType.float) 2 0 0 [.ref (h 0)] (qS κ h) g rf4 (fun r u => u = tg g (cdL [(decide (n = 0), 1)]) ∧ (cdL [(decide (n = 0), 1)] = 0 → r = isV m)) (fun _ _ => False) := by
  refine Ct.of (own := RX6) (by decide) rfl hl (by intro v hv; simp only [List.mem_cons, List.not_mem_nil, or_false] at hv; first | (rcases hv with rfl | rfl | rfl | rfl | rfl | rfl <;> rfl) | (rcases hv with rfl | rfl | rfl | rfl | rfl <;> rfl) | (rcases hv with rfl | rfl | rfl | rfl <;> rfl) | (rcases hv with rfl | rfl | rfl <;> rfl) | (rcases hv with rfl | rfl <;> rfl) | (subst hv; rfl) | exact hv.elim) (Nat.le_of_ble_eq_true rfl) (fun X hxl hxk C F N => ?_)
  subst hxl hxk
  show V X (qS (xK X) h) 0 [some (.ref (h 0)), none] [] g 0 0
  obtain ⟨hm, hs, h96, hRR⟩ := id hQ
  obtain ⟨-, hn7, hMf⟩ := id hW
  refine v_aload_n C dX6_idleShare_0 rfl ?_
  refine v_callVi C (c_X6_noMemory hl (n := n) hm) ym_X6_noMemory ml_X6_207 emb_id_qS rfl rfl rfl rfl rfl dX6_idleShare_1 (Nat.le_of_ble_eq_true rfl) (Nat.le_of_ble_eq_true rfl) (Nat.le_of_ble_eq_true rfl) (Nat.le_of_ble_eq_true rfl) (fun _ _ hu => hu.elim) (fun r u hu => ?_)
  obtain ⟨rfl, hu⟩ := hu
  subst u
  refine v_if_eqB C 9 dX6_idleShare_4 (by decide) (fun c4 => ?_) (fun c4 => ?_)
  · have hn0 : ¬ n = 0 := of_decide_eq_false c4
    have hR := hRR hn0
    have hMI := hMf hn0
    obtain ⟨hI, hE, hLK, hn1, hSB, hBY, hPR⟩ := id hMI
    have hbd := band_ok hSB
    have hn := hI.1
    refine V.stt (g2 := tg g 0) (by rw [c4]; rfl) ?_
    refine v_aload_n C dX6_idleShare_9 rfl ?_
    refine v_getr C fl_X6_7 or_qS_0_3 dX6_idleShare_10 ?_
    refine v_sipush (v := nI 392) C dX6_idleShare_13 (by decide) ?_
    refine v_ialdQ (x := m 6 2) C ar_qS_1 (by decide) _ (hR.a (k := 2) (by decide)) ?_ rfl dX6_idleShare_16 ?_
    · omega
    refine v_aload_n C dX6_idleShare_17 rfl ?_
    refine v_getr C fl_X6_7 or_qS_0_3 dX6_idleShare_18 ?_
    refine v_sipush (v := nI 393) C dX6_idleShare_21 (by decide) ?_
    refine v_ialdQ (x := m 6 3) C ar_qS_1 (by decide) _ (hR.a (k := 3) (by decide)) ?_ rfl dX6_idleShare_24 ?_
    · omega
    first | refine v_iaddN C dX6_idleShare_25 ?_ | refine v_iadd C dX6_idleShare_25 ?_
    refine v_aload_n C dX6_idleShare_26 rfl ?_
    refine v_getr C fl_X6_7 or_qS_0_3 dX6_idleShare_27 ?_
    refine v_sipush (v := nI 394) C dX6_idleShare_30 (by decide) ?_
    refine v_ialdQ (x := m 6 4) C ar_qS_1 (by decide) _ (hR.a (k := 4) (by decide)) ?_ rfl dX6_idleShare_33 ?_
    · omega
    first | refine v_iaddN C dX6_idleShare_34 ?_ | refine v_iadd C dX6_idleShare_34 ?_
    refine v_istore_n C (lo2 := [some _, some _]) dX6_idleShare_35 rfl (Nat.le_of_ble_eq_true rfl) rfl ?_
    refine v_iload_n C dX6_idleShare_36 rfl ?_
    refine v_if_ne C 44 dX6_idleShare_37 (by decide) (fun c37 => ?_) (fun c37 => ?_)
    · refine v_aload_n C dX6_idleShare_44 rfl ?_
      refine v_getr C fl_X6_7 or_qS_0_3 dX6_idleShare_45 ?_
      refine v_sipush (v := nI 392) C dX6_idleShare_48 (by decide) ?_
      refine v_ialdQ (x := m 6 2) C ar_qS_1 (by decide) _ (hR.a (k := 2) (by decide)) ?_ rfl dX6_idleShare_51 ?_
      · omega
      refine v_i2f C dX6_idleShare_52 ?_
      refine v_iload_n C dX6_idleShare_53 rfl ?_
      refine v_i2f C dX6_idleShare_54 ?_
      refine v_fdiv C dX6_idleShare_55 ?_ ?_
      · exact fp_f c37
      refine v_fret C F dX6_idleShare_56 (Nat.le_of_ble_eq_true rfl) (Nat.le_of_ble_eq_true rfl) ?_
      first
      | (refine ⟨?_, fun _ => ?_⟩
         simp [cdL, hn0]
         first
         | exact (if_pos c37).symm
         | exact (if_neg c37).symm)
      | (refine ⟨?_, fun z => absurd z ?_⟩; (simp [cdL, hz0]); (simp [cdL, hz0]); done)
    · refine v_fconst0 C dX6_idleShare_40 ?_
      refine v_goto C 56 dX6_idleShare_41 (by decide) ?_
      refine v_fret C F dX6_idleShare_56 (Nat.le_of_ble_eq_true rfl) (Nat.le_of_ble_eq_true rfl) ?_
      first
      | (refine ⟨?_, fun _ => ?_⟩
         simp [cdL, hn0]
         first
         | exact (if_pos c37).symm
         | exact (if_neg c37).symm)
      | (refine ⟨?_, fun z => absurd z ?_⟩; (simp [cdL, hz0]); (simp [cdL, hz0]); done)
  · have hz0 : n = 0 := of_decide_eq_true c4
    refine V.stt (g2 := tg g 1) (by rw [c4]; rfl) ?_
    refine v_fconst0 C dX6_idleShare_7 ?_
    refine v_fret C F dX6_idleShare_8 (Nat.le_of_ble_eq_true rfl) (Nat.le_of_ble_eq_true rfl) ?_
    first
    | (refine ⟨?_, fun _ => ?_⟩
       simp [cdL, hn0]
       first
       | exact (if_pos c37).symm
       | exact (if_neg c37).symm)
    | (refine ⟨?_, fun z => absurd z ?_⟩; (simp [cdL, hz0]); (simp [cdL, hz0]); done)
