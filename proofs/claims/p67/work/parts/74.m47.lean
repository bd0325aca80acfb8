set_option maxHeartbeats 16000000 in
theorem c_calls_0 {l : Launch} (hl : l.stackTraces = false) {κ : Kp} {g : Nat → Nat} {u : Cg} {a b c : Int32} {dM : Nat} {po : Int32 → Cg → Prop} {pxs : String → Cg → Prop} (hdM : dM < 6) (M : Ct SS MM l κ yX5_setting cX5_setting 2 (some FieldType.int) dM 6 36 [.ref (g 0), .int a] (cS κ g) u ri po pxs) : CtG SS MM l κ yL_calls cL_calls 5 (some FieldType.long) 6 6 36 [.ref (g 0), .int (nI 0), .int a, .int b, .int c] (cS κ g u) rl (fun _ w => ∃ r u', po r u' ∧ w = cS κ g u') (fun e w => ∃ u', pxs e u' ∧ w = cS κ g u') := by
  refine CtG.of (own := RL) (by decide) rfl hl (by intro v hv; simp only [List.mem_cons, List.not_mem_nil, or_false] at hv; first | (rcases hv with rfl | rfl | rfl | rfl | rfl | rfl <;> rfl) | (rcases hv with rfl | rfl | rfl | rfl | rfl <;> rfl) | (rcases hv with rfl | rfl | rfl | rfl <;> rfl) | (rcases hv with rfl | rfl | rfl <;> rfl) | (rcases hv with rfl | rfl <;> rfl) | (subst hv; rfl) | exact hv.elim) (Nat.le_of_ble_eq_true rfl) (fun X hxl hxk C F NH hnm => ?_)
  subst hxl hxk
  show V X iW 0 [some (.ref (g 0)), some (.int (nI 0)), some (.int a), some (.int b), some (.int c)] [] (cS (xK X) g u) 0 0
  refine v_iload_n C dL_calls_0 rfl ?_
  refine v_tableIn C 156 dL_calls_1 (by decide) (by decide) (off := 155) (by decide) (by decide) ?_
  refine v_aload_n C dL_calls_156 rfl ?_
  refine v_iload_n C dL_calls_157 rfl ?_
  refine v_kVi (K := fun w => w) C Cxt.id M ym_X5_setting ml_L_33 fix_cS cS_0 rfl rfl rfl dL_calls_158 (by first | omega | exact Nat.le_of_ble_eq_true rfl) (by first | omega | exact Nat.le_of_ble_eq_true rfl) (by first | omega | exact Nat.le_of_ble_eq_true rfl) (Nat.le_of_ble_eq_true rfl) (fun e u hu => v_outG C NH F (by omega) (by omega) (List.Perm.refl _) ⟨u, hu, rfl⟩) (fun r u hu => ?_)
  have hpo := hu
  refine v_i2l C dL_calls_161 rfl ?_
  refine v_lretG C F dL_calls_162 (by first | omega | exact Nat.le_of_ble_eq_true rfl) (by first | omega | exact Nat.le_of_ble_eq_true rfl) rfl (List.Perm.refl _) ?_
  exact ⟨_, _, hpo, rfl⟩
set_option maxHeartbeats 16000000 in
theorem c_calls_1 {l : Launch} (hl : l.stackTraces = false) {κ : Kp} {g : Nat → Nat} {u : Cg} {a b c : Int32} {dM : Nat} {po : Int32 → Cg → Prop} {pxs : String → Cg → Prop} (hdM : dM < 6) (M : Ct SS MM l κ yX5_value cX5_value 2 (some FieldType.int) dM 6 36 [.ref (g 0), .int a] (cS κ g) u ri po pxs) : CtG SS MM l κ yL_calls cL_calls 5 (some FieldType.long) 6 6 36 [.ref (g 0), .int (nI 1), .int a, .int b, .int c] (cS κ g u) rl (fun _ w => ∃ r u', po r u' ∧ w = cS κ g u') (fun e w => ∃ u', pxs e u' ∧ w = cS κ g u') := by
  refine CtG.of (own := RL) (by decide) rfl hl (by intro v hv; simp only [List.mem_cons, List.not_mem_nil, or_false] at hv; first | (rcases hv with rfl | rfl | rfl | rfl | rfl | rfl <;> rfl) | (rcases hv with rfl | rfl | rfl | rfl | rfl <;> rfl) | (rcases hv with rfl | rfl | rfl | rfl <;> rfl) | (rcases hv with rfl | rfl | rfl <;> rfl) | (rcases hv with rfl | rfl <;> rfl) | (subst hv; rfl) | exact hv.elim) (Nat.le_of_ble_eq_true rfl) (fun X hxl hxk C F NH hnm => ?_)
  subst hxl hxk
  show V X iW 0 [some (.ref (g 0)), some (.int (nI 1)), some (.int a), some (.int b), some (.int c)] [] (cS (xK X) g u) 0 0
  refine v_iload_n C dL_calls_0 rfl ?_
  refine v_tableIn C 163 dL_calls_1 (by decide) (by decide) (off := 162) (by decide) (by decide) ?_
  refine v_aload_n C dL_calls_163 rfl ?_
  refine v_iload_n C dL_calls_164 rfl ?_
  refine v_kVi (K := fun w => w) C Cxt.id M ym_X5_value ml_L_36 fix_cS cS_0 rfl rfl rfl dL_calls_165 (by first | omega | exact Nat.le_of_ble_eq_true rfl) (by first | omega | exact Nat.le_of_ble_eq_true rfl) (by first | omega | exact Nat.le_of_ble_eq_true rfl) (Nat.le_of_ble_eq_true rfl) (fun e u hu => v_outG C NH F (by omega) (by omega) (List.Perm.refl _) ⟨u, hu, rfl⟩) (fun r u hu => ?_)
  have hpo := hu
  refine v_i2l C dL_calls_168 rfl ?_
  refine v_lretG C F dL_calls_169 (by first | omega | exact Nat.le_of_ble_eq_true rfl) (by first | omega | exact Nat.le_of_ble_eq_true rfl) rfl (List.Perm.refl _) ?_
  exact ⟨_, _, hpo, rfl⟩
set_option maxHeartbeats 16000000 in
theorem c_calls_2 {l : Launch} (hl : l.stackTraces = false) {κ : Kp} {g : Nat → Nat} {u : Cg} {a b c : Int32} {dM : Nat} {po : Int32 → Cg → Prop} {pxs : String → Cg → Prop} (hdM : dM < 6) (M : Ct SS MM l κ yX5_dependents cX5_dependents 7 (some FieldType.int) dM 6 36 [.ref (g 0), .int a, .int (bI (b == 1))] (cS κ g) u ri po pxs) : CtG SS MM l κ yL_calls cL_calls 5 (some FieldType.long) 6 6 36 [.ref (g 0), .int (nI 2), .int a, .int b, .int c] (cS κ g u) rl (fun _ w => ∃ r u', po r u' ∧ w = cS κ g u') (fun e w => ∃ u', pxs e u' ∧ w = cS κ g u') := by
  refine CtG.of (own := RL) (by decide) rfl hl (by intro v hv; simp only [List.mem_cons, List.not_mem_nil, or_false] at hv; first | (rcases hv with rfl | rfl | rfl | rfl | rfl | rfl <;> rfl) | (rcases hv with rfl | rfl | rfl | rfl | rfl <;> rfl) | (rcases hv with rfl | rfl | rfl | rfl <;> rfl) | (rcases hv with rfl | rfl | rfl <;> rfl) | (rcases hv with rfl | rfl <;> rfl) | (subst hv; rfl) | exact hv.elim) (Nat.le_of_ble_eq_true rfl) (fun X hxl hxk C F NH hnm => ?_)
  subst hxl hxk
  show V X iW 0 [some (.ref (g 0)), some (.int (nI 2)), some (.int a), some (.int b), some (.int c)] [] (cS (xK X) g u) 0 0
  refine v_iload_n C dL_calls_0 rfl ?_
  refine v_tableIn C 170 dL_calls_1 (by decide) (by decide) (off := 169) (by decide) (by decide) ?_
  refine v_aload_n C dL_calls_170 rfl ?_
  refine v_iload_n C dL_calls_171 rfl ?_
  refine v_iload_n C dL_calls_172 rfl ?_
  refine v_iconst (v := nI 1) C dL_calls_173 (by decide) ?_
  refine v_icmp_ne C 181 dL_calls_174 (by decide) (fun c174 => ?_) (fun c174 => ?_)
  · have hb : (b == 1) = false := beq_eq_false_iff_ne.mpr c174
    rw [hb] at M
    refine v_iconst (v := nI 0) C dL_calls_181 (by decide) ?_
    refine v_kVi (K := fun w => w) C Cxt.id M ym_X5_dependents ml_L_39 fix_cS cS_0 rfl rfl rfl dL_calls_182 (by first | omega | exact Nat.le_of_ble_eq_true rfl) (by first | omega | exact Nat.le_of_ble_eq_true rfl) (by first | omega | exact Nat.le_of_ble_eq_true rfl) (Nat.le_of_ble_eq_true rfl) (fun e u hu => v_outG C NH F (by omega) (by omega) (List.Perm.refl _) ⟨u, hu, rfl⟩) (fun r u hu => ?_)
    have hpo := hu
    refine v_i2l C dL_calls_185 rfl ?_
    refine v_lretG C F dL_calls_186 (by first | omega | exact Nat.le_of_ble_eq_true rfl) (by first | omega | exact Nat.le_of_ble_eq_true rfl) rfl (List.Perm.refl _) ?_
    exact ⟨_, _, hpo, rfl⟩
  · have hb : (b == 1) = true := beq_iff_eq.mpr c174
    rw [hb] at M
    refine v_iconst (v := nI 1) C dL_calls_177 (by decide) ?_
    refine v_goto C 182 dL_calls_178 (by decide) ?_
    refine v_kVi (K := fun w => w) C Cxt.id M ym_X5_dependents ml_L_39 fix_cS cS_0 rfl rfl rfl dL_calls_182 (by first | omega | exact Nat.le_of_ble_eq_true rfl) (by first | omega | exact Nat.le_of_ble_eq_true rfl) (by first | omega | exact Nat.le_of_ble_eq_true rfl) (Nat.le_of_ble_eq_true rfl) (fun e u hu => v_outG C NH F (by omega) (by omega) (List.Perm.refl _) ⟨u, hu, rfl⟩) (fun r u hu => ?_)
    have hpo := hu
    refine v_i2l C dL_calls_185 rfl ?_
    refine v_lretG C F dL_calls_186 (by first | omega | exact Nat.le_of_ble_eq_true rfl) (by first | omega | exact Nat.le_of_ble_eq_true rfl) rfl (List.Perm.refl _) ?_
    exact ⟨_, _, hpo, rfl⟩
set_option maxHeartbeats 16000000 in
theorem c_calls_3 {l : Launch} (hl : l.stackTraces = false) {κ : Kp} {g : Nat → Nat} {u : Cg} {a b c : Int32} {dM : Nat} {po : Int32 → Cg → Prop} {pxs : String → Cg → Prop} (hdM : dM < 6) (M : Ct SS MM l κ yX5_debt cX5_debt 5 (some FieldType.int) dM 6 36 [.ref (g 0), .int a, .int b] (cS κ g) u ri po pxs) : CtG SS MM l κ yL_calls cL_calls 5 (some FieldType.long) 6 6 36 [.ref (g 0), .int (nI 3), .int a, .int b, .int c] (cS κ g u) rl (fun _ w => ∃ r u', po r u' ∧ w = cS κ g u') (fun e w => ∃ u', pxs e u' ∧ w = cS κ g u') := by
  refine CtG.of (own := RL) (by decide) rfl hl (by intro v hv; simp only [List.mem_cons, List.not_mem_nil, or_false] at hv; first | (rcases hv with rfl | rfl | rfl | rfl | rfl | rfl <;> rfl) | (rcases hv with rfl | rfl | rfl | rfl | rfl <;> rfl) | (rcases hv with rfl | rfl | rfl | rfl <;> rfl) | (rcases hv with rfl | rfl | rfl <;> rfl) | (rcases hv with rfl | rfl <;> rfl) | (subst hv; rfl) | exact hv.elim) (Nat.le_of_ble_eq_true rfl) (fun X hxl hxk C F NH hnm => ?_)
  subst hxl hxk
  show V X iW 0 [some (.ref (g 0)), some (.int (nI 3)), some (.int a), some (.int b), some (.int c)] [] (cS (xK X) g u) 0 0
  refine v_iload_n C dL_calls_0 rfl ?_
  refine v_tableIn C 187 dL_calls_1 (by decide) (by decide) (off := 186) (by decide) (by decide) ?_
  refine v_aload_n C dL_calls_187 rfl ?_
  refine v_iload_n C dL_calls_188 rfl ?_
  refine v_iload_n C dL_calls_189 rfl ?_
  refine v_kVi (K := fun w => w) C Cxt.id M ym_X5_debt ml_L_43 fix_cS cS_0 rfl rfl rfl dL_calls_190 (by first | omega | exact Nat.le_of_ble_eq_true rfl) (by first | omega | exact Nat.le_of_ble_eq_true rfl) (by first | omega | exact Nat.le_of_ble_eq_true rfl) (Nat.le_of_ble_eq_true rfl) (fun e u hu => v_outG C NH F (by omega) (by omega) (List.Perm.refl _) ⟨u, hu, rfl⟩) (fun r u hu => ?_)
  have hpo := hu
  refine v_i2l C dL_calls_193 rfl ?_
  refine v_lretG C F dL_calls_194 (by first | omega | exact Nat.le_of_ble_eq_true rfl) (by first | omega | exact Nat.le_of_ble_eq_true rfl) rfl (List.Perm.refl _) ?_
  exact ⟨_, _, hpo, rfl⟩
set_option maxHeartbeats 16000000 in
theorem c_calls_4 {l : Launch} (hl : l.stackTraces = false) {κ : Kp} {g : Nat → Nat} {u : Cg} {a b c : Int32} {dM : Nat} {po : Int32 → Cg → Prop} {pxs : String → Cg → Prop} (hdM : dM < 6) (M : Ct SS MM l κ yX5_sum cX5_sum 5 (some FieldType.int) dM 6 36 [.ref (g 0), .int a, .int b] (cS κ g) u ri po pxs) : CtG SS MM l κ yL_calls cL_calls 5 (some FieldType.long) 6 6 36 [.ref (g 0), .int (nI 4), .int a, .int b, .int c] (cS κ g u) rl (fun _ w => ∃ r u', po r u' ∧ w = cS κ g u') (fun e w => ∃ u', pxs e u' ∧ w = cS κ g u') := by
  refine CtG.of (own := RL) (by decide) rfl hl (by intro v hv; simp only [List.mem_cons, List.not_mem_nil, or_false] at hv; first | (rcases hv with rfl | rfl | rfl | rfl | rfl | rfl <;> rfl) | (rcases hv with rfl | rfl | rfl | rfl | rfl <;> rfl) | (rcases hv with rfl | rfl | rfl | rfl <;> rfl) | (rcases hv with rfl | rfl | rfl <;> rfl) | (rcases hv with rfl | rfl <;> rfl) | (subst hv; rfl) | exact hv.elim) (Nat.le_of_ble_eq_true rfl) (fun X hxl hxk C F NH hnm => ?_)
  subst hxl hxk
  show V X iW 0 [some (.ref (g 0)), some (.int (nI 4)), some (.int a), some (.int b), some (.int c)] [] (cS (xK X) g u) 0 0
  refine v_iload_n C dL_calls_0 rfl ?_
  refine v_tableIn C 195 dL_calls_1 (by decide) (by decide) (off := 194) (by decide) (by decide) ?_
  refine v_aload_n C dL_calls_195 rfl ?_
  refine v_iload_n C dL_calls_196 rfl ?_
  refine v_iload_n C dL_calls_197 rfl ?_
  refine v_kVi (K := fun w => w) C Cxt.id M ym_X5_sum ml_L_47 fix_cS cS_0 rfl rfl rfl dL_calls_198 (by first | omega | exact Nat.le_of_ble_eq_true rfl) (by first | omega | exact Nat.le_of_ble_eq_true rfl) (by first | omega | exact Nat.le_of_ble_eq_true rfl) (Nat.le_of_ble_eq_true rfl) (fun e u hu => v_outG C NH F (by omega) (by omega) (List.Perm.refl _) ⟨u, hu, rfl⟩) (fun r u hu => ?_)
  have hpo := hu
  refine v_i2l C dL_calls_201 rfl ?_
  refine v_lretG C F dL_calls_202 (by first | omega | exact Nat.le_of_ble_eq_true rfl) (by first | omega | exact Nat.le_of_ble_eq_true rfl) rfl (List.Perm.refl _) ?_
  exact ⟨_, _, hpo, rfl⟩
set_option maxHeartbeats 16000000 in
theorem c_calls_5 {l : Launch} (hl : l.stackTraces = false) {κ : Kp} {g : Nat → Nat} {u : Cg} {a b c : Int32} {dM : Nat} {po : Int32 → Cg → Prop} {pxs : String → Cg → Prop} (hdM : dM < 6) (M : Ct SS MM l κ yX5_find cX5_find 5 (some FieldType.int) dM 6 36 [.ref (g 0), .int a, .int b] (cS κ g) u ri po pxs) : CtG SS MM l κ yL_calls cL_calls 5 (some FieldType.long) 6 6 36 [.ref (g 0), .int (nI 5), .int a, .int b, .int c] (cS κ g u) rl (fun _ w => ∃ r u', po r u' ∧ w = cS κ g u') (fun e w => ∃ u', pxs e u' ∧ w = cS κ g u') := by
  refine CtG.of (own := RL) (by decide) rfl hl (by intro v hv; simp only [List.mem_cons, List.not_mem_nil, or_false] at hv; first | (rcases hv with rfl | rfl | rfl | rfl | rfl | rfl <;> rfl) | (rcases hv with rfl | rfl | rfl | rfl | rfl <;> rfl) | (rcases hv with rfl | rfl | rfl | rfl <;> rfl) | (rcases hv with rfl | rfl | rfl <;> rfl) | (rcases hv with rfl | rfl <;> rfl) | (subst hv; rfl) | exact hv.elim) (Nat.le_of_ble_eq_true rfl) (fun X hxl hxk C F NH hnm => ?_)
  subst hxl hxk
  show V X iW 0 [some (.ref (g 0)), some (.int (nI 5)), some (.int a), some (.int b), some (.int c)] [] (cS (xK X) g u) 0 0
  refine v_iload_n C dL_calls_0 rfl ?_
  refine v_tableIn C 203 dL_calls_1 (by decide) (by decide) (off := 202) (by decide) (by decide) ?_
  refine v_aload_n C dL_calls_203 rfl ?_
  refine v_iload_n C dL_calls_204 rfl ?_
  refine v_iload_n C dL_calls_205 rfl ?_
  refine v_kVi (K := fun w => w) C Cxt.id M ym_X5_find ml_L_50 fix_cS cS_0 rfl rfl rfl dL_calls_206 (by first | omega | exact Nat.le_of_ble_eq_true rfl) (by first | omega | exact Nat.le_of_ble_eq_true rfl) (by first | omega | exact Nat.le_of_ble_eq_true rfl) (Nat.le_of_ble_eq_true rfl) (fun e u hu => v_outG C NH F (by omega) (by omega) (List.Perm.refl _) ⟨u, hu, rfl⟩) (fun r u hu => ?_)
  have hpo := hu
  refine v_i2l C dL_calls_209 rfl ?_
  refine v_lretG C F dL_calls_210 (by first | omega | exact Nat.le_of_ble_eq_true rfl) (by first | omega | exact Nat.le_of_ble_eq_true rfl) rfl (List.Perm.refl _) ?_
  exact ⟨_, _, hpo, rfl⟩
set_option maxHeartbeats 16000000 in
theorem c_calls_6 {l : Launch} (hl : l.stackTraces = false) {κ : Kp} {g : Nat → Nat} {u : Cg} {a b c : Int32} {dM : Nat} {po : Int32 → Cg → Prop} {pxs : String → Cg → Prop} (hdM : dM < 6) (M : Ct SS MM l κ yX5_same cX5_same 6 (some FieldType.boolean) dM 6 36 [.ref (g 0), .int a, .int b, .int c] (cS κ g) u ri po pxs) : CtG SS MM l κ yL_calls cL_calls 5 (some FieldType.long) 6 6 36 [.ref (g 0), .int (nI 6), .int a, .int b, .int c] (cS κ g u) rl (fun _ w => ∃ r u', po r u' ∧ w = cS κ g u') (fun e w => ∃ u', pxs e u' ∧ w = cS κ g u') := by
  refine CtG.of (own := RL) (by decide) rfl hl (by intro v hv; simp only [List.mem_cons, List.not_mem_nil, or_false] at hv; first | (rcases hv with rfl | rfl | rfl | rfl | rfl | rfl <;> rfl) | (rcases hv with rfl | rfl | rfl | rfl | rfl <;> rfl) | (rcases hv with rfl | rfl | rfl | rfl <;> rfl) | (rcases hv with rfl | rfl | rfl <;> rfl) | (rcases hv with rfl | rfl <;> rfl) | (subst hv; rfl) | exact hv.elim) (Nat.le_of_ble_eq_true rfl) (fun X hxl hxk C F NH hnm => ?_)
  subst hxl hxk
  show V X iW 0 [some (.ref (g 0)), some (.int (nI 6)), some (.int a), some (.int b), some (.int c)] [] (cS (xK X) g u) 0 0
  refine v_iload_n C dL_calls_0 rfl ?_
  refine v_tableIn C 211 dL_calls_1 (by decide) (by decide) (off := 210) (by decide) (by decide) ?_
  refine v_aload_n C dL_calls_211 rfl ?_
  refine v_iload_n C dL_calls_212 rfl ?_
  refine v_iload_n C dL_calls_213 rfl ?_
  refine v_iload C dL_calls_214 rfl ?_
  refine v_kVi (K := fun w => w) C Cxt.id M ym_X5_same ml_L_53 fix_cS cS_0 rfl rfl rfl dL_calls_216 (by first | omega | exact Nat.le_of_ble_eq_true rfl) (by first | omega | exact Nat.le_of_ble_eq_true rfl) (by first | omega | exact Nat.le_of_ble_eq_true rfl) (Nat.le_of_ble_eq_true rfl) (fun e u hu => v_outG C NH F (by omega) (by omega) (List.Perm.refl _) ⟨u, hu, rfl⟩) (fun r u hu => ?_)
  have hpo := hu
  refine v_if_eq C 226 dL_calls_219 (by decide) (fun c219 => ?_) (fun c219 => ?_)
  · refine v_lconst C dL_calls_226 rfl ?_
    refine v_lretG C F dL_calls_227 (by first | omega | exact Nat.le_of_ble_eq_true rfl) (by first | omega | exact Nat.le_of_ble_eq_true rfl) rfl (List.Perm.refl _) ?_
    exact ⟨_, _, hpo, rfl⟩
  · refine v_lconst C dL_calls_222 rfl ?_
    refine v_goto C 227 dL_calls_223 (by decide) ?_
    refine v_lretG C F dL_calls_227 (by first | omega | exact Nat.le_of_ble_eq_true rfl) (by first | omega | exact Nat.le_of_ble_eq_true rfl) rfl (List.Perm.refl _) ?_
    exact ⟨_, _, hpo, rfl⟩
set_option maxHeartbeats 16000000 in
theorem c_calls_8 {l : Launch} (hl : l.stackTraces = false) {κ : Kp} {g : Nat → Nat} {u : Cg} {a b c : Int32} {dM : Nat} {po : Int32 → Cg → Prop} {pxs : String → Cg → Prop} (hdM : dM < 6) (M : Ct SS MM l κ yX5_forcedByWrite cX5_forcedByWrite 2 (some FieldType.int) dM 6 36 [.ref (g 0), .int a] (cS κ g) u ri po pxs) : CtG SS MM l κ yL_calls cL_calls 5 (some FieldType.long) 6 6 36 [.ref (g 0), .int (nI 8), .int a, .int b, .int c] (cS κ g u) rl (fun _ w => ∃ r u', po r u' ∧ w = cS κ g u') (fun e w => ∃ u', pxs e u' ∧ w = cS κ g u') := by
  refine CtG.of (own := RL) (by decide) rfl hl (by intro v hv; simp only [List.mem_cons, List.not_mem_nil, or_false] at hv; first | (rcases hv with rfl | rfl | rfl | rfl | rfl | rfl <;> rfl) | (rcases hv with rfl | rfl | rfl | rfl | rfl <;> rfl) | (rcases hv with rfl | rfl | rfl | rfl <;> rfl) | (rcases hv with rfl | rfl | rfl <;> rfl) | (rcases hv with rfl | rfl <;> rfl) | (subst hv; rfl) | exact hv.elim) (Nat.le_of_ble_eq_true rfl) (fun X hxl hxk C F NH hnm => ?_)
  subst hxl hxk
  show V X iW 0 [some (.ref (g 0)), some (.int (nI 8)), some (.int a), some (.int b), some (.int c)] [] (cS (xK X) g u) 0 0
  refine v_iload_n C dL_calls_0 rfl ?_
  refine v_tableIn C 238 dL_calls_1 (by decide) (by decide) (off := 237) (by decide) (by decide) ?_
  refine v_aload_n C dL_calls_238 rfl ?_
  refine v_iload_n C dL_calls_239 rfl ?_
  refine v_kVi (K := fun w => w) C Cxt.id M ym_X5_forcedByWrite ml_L_61 fix_cS cS_0 rfl rfl rfl dL_calls_240 (by first | omega | exact Nat.le_of_ble_eq_true rfl) (by first | omega | exact Nat.le_of_ble_eq_true rfl) (by first | omega | exact Nat.le_of_ble_eq_true rfl) (Nat.le_of_ble_eq_true rfl) (fun e u hu => v_outG C NH F (by omega) (by omega) (List.Perm.refl _) ⟨u, hu, rfl⟩) (fun r u hu => ?_)
  have hpo := hu
  refine v_i2l C dL_calls_243 rfl ?_
  refine v_lretG C F dL_calls_244 (by first | omega | exact Nat.le_of_ble_eq_true rfl) (by first | omega | exact Nat.le_of_ble_eq_true rfl) rfl (List.Perm.refl _) ?_
  exact ⟨_, _, hpo, rfl⟩
set_option maxHeartbeats 16000000 in
theorem c_calls_11 {l : Launch} (hl : l.stackTraces = false) {κ : Kp} {g : Nat → Nat} {u : Cg} {a b c : Int32} {dM : Nat} {po : Int32 → Cg → Prop} {pxs : String → Cg → Prop} (hdM : dM < 6) (M : Ct SS MM l κ yX5_account cX5_account 2 (some FieldType.int) dM 6 36 [.ref (g 0), .int a] (cS κ g) u ri po pxs) : CtG SS MM l κ yL_calls cL_calls 5 (some FieldType.long) 6 6 36 [.ref (g 0), .int (nI 11), .int a, .int b, .int c] (cS κ g u) rl (fun _ w => ∃ r u', po r u' ∧ w = cS κ g u') (fun e w => ∃ u', pxs e u' ∧ w = cS κ g u') := by
  refine CtG.of (own := RL) (by decide) rfl hl (by intro v hv; simp only [List.mem_cons, List.not_mem_nil, or_false] at hv; first | (rcases hv with rfl | rfl | rfl | rfl | rfl | rfl <;> rfl) | (rcases hv with rfl | rfl | rfl | rfl | rfl <;> rfl) | (rcases hv with rfl | rfl | rfl | rfl <;> rfl) | (rcases hv with rfl | rfl | rfl <;> rfl) | (rcases hv with rfl | rfl <;> rfl) | (subst hv; rfl) | exact hv.elim) (Nat.le_of_ble_eq_true rfl) (fun X hxl hxk C F NH hnm => ?_)
  subst hxl hxk
  show V X iW 0 [some (.ref (g 0)), some (.int (nI 11)), some (.int a), some (.int b), some (.int c)] [] (cS (xK X) g u) 0 0
  refine v_iload_n C dL_calls_0 rfl ?_
  refine v_tableIn C 259 dL_calls_1 (by decide) (by decide) (off := 258) (by decide) (by decide) ?_
  refine v_aload_n C dL_calls_259 rfl ?_
  refine v_iload_n C dL_calls_260 rfl ?_
  refine v_kVi (K := fun w => w) C Cxt.id M ym_X5_account ml_L_70 fix_cS cS_0 rfl rfl rfl dL_calls_261 (by first | omega | exact Nat.le_of_ble_eq_true rfl) (by first | omega | exact Nat.le_of_ble_eq_true rfl) (by first | omega | exact Nat.le_of_ble_eq_true rfl) (Nat.le_of_ble_eq_true rfl) (fun e u hu => v_outG C NH F (by omega) (by omega) (List.Perm.refl _) ⟨u, hu, rfl⟩) (fun r u hu => ?_)
  have hpo := hu
  refine v_i2l C dL_calls_264 rfl ?_
  refine v_lretG C F dL_calls_265 (by first | omega | exact Nat.le_of_ble_eq_true rfl) (by first | omega | exact Nat.le_of_ble_eq_true rfl) rfl (List.Perm.refl _) ?_
  exact ⟨_, _, hpo, rfl⟩
set_option maxHeartbeats 16000000 in
theorem c_calls_12 {l : Launch} (hl : l.stackTraces = false) {κ : Kp} {g : Nat → Nat} {u : Cg} {a b c : Int32} {dM : Nat} {po : Int32 → Cg → Prop} {pxs : String → Cg → Prop} (hdM : dM < 6) (M : Ct SS MM l κ yX5_event cX5_event 3 (some FieldType.int) dM 6 36 [.ref (g 0), .int a, .int b] (cS κ g) u ri po pxs) : CtG SS MM l κ yL_calls cL_calls 5 (some FieldType.long) 6 6 36 [.ref (g 0), .int (nI 12), .int a, .int b, .int c] (cS κ g u) rl (fun _ w => ∃ r u', po r u' ∧ w = cS κ g u') (fun e w => ∃ u', pxs e u' ∧ w = cS κ g u') := by
  refine CtG.of (own := RL) (by decide) rfl hl (by intro v hv; simp only [List.mem_cons, List.not_mem_nil, or_false] at hv; first | (rcases hv with rfl | rfl | rfl | rfl | rfl | rfl <;> rfl) | (rcases hv with rfl | rfl | rfl | rfl | rfl <;> rfl) | (rcases hv with rfl | rfl | rfl | rfl <;> rfl) | (rcases hv with rfl | rfl | rfl <;> rfl) | (rcases hv with rfl | rfl <;> rfl) | (subst hv; rfl) | exact hv.elim) (Nat.le_of_ble_eq_true rfl) (fun X hxl hxk C F NH hnm => ?_)
  subst hxl hxk
  show V X iW 0 [some (.ref (g 0)), some (.int (nI 12)), some (.int a), some (.int b), some (.int c)] [] (cS (xK X) g u) 0 0
  refine v_iload_n C dL_calls_0 rfl ?_
  refine v_tableIn C 266 dL_calls_1 (by decide) (by decide) (off := 265) (by decide) (by decide) ?_
  refine v_aload_n C dL_calls_266 rfl ?_
  refine v_iload_n C dL_calls_267 rfl ?_
  refine v_iload_n C dL_calls_268 rfl ?_
  refine v_kVi (K := fun w => w) C Cxt.id M ym_X5_event ml_L_73 fix_cS cS_0 rfl rfl rfl dL_calls_269 (by first | omega | exact Nat.le_of_ble_eq_true rfl) (by first | omega | exact Nat.le_of_ble_eq_true rfl) (by first | omega | exact Nat.le_of_ble_eq_true rfl) (Nat.le_of_ble_eq_true rfl) (fun e u hu => v_outG C NH F (by omega) (by omega) (List.Perm.refl _) ⟨u, hu, rfl⟩) (fun r u hu => ?_)
  have hpo := hu
  refine v_i2l C dL_calls_272 rfl ?_
  refine v_lretG C F dL_calls_273 (by first | omega | exact Nat.le_of_ble_eq_true rfl) (by first | omega | exact Nat.le_of_ble_eq_true rfl) rfl (List.Perm.refl _) ?_
  exact ⟨_, _, hpo, rfl⟩
set_option maxHeartbeats 16000000 in
theorem c_calls_14 {l : Launch} (hl : l.stackTraces = false) {κ : Kp} {g : Nat → Nat} {u : Cg} {a b c : Int32} {dM : Nat} {po : Int32 → Cg → Prop} {pxs : String → Cg → Prop} (hdM : dM < 6) (M : Ct SS MM l κ yX5_textByte cX5_textByte 2 (some FieldType.int) dM 6 36 [.ref (g 0), .int a] (cS κ g) u ri po pxs) : CtG SS MM l κ yL_calls cL_calls 5 (some FieldType.long) 6 6 36 [.ref (g 0), .int (nI 14), .int a, .int b, .int c] (cS κ g u) rl (fun _ w => ∃ r u', po r u' ∧ w = cS κ g u') (fun e w => ∃ u', pxs e u' ∧ w = cS κ g u') := by
  refine CtG.of (own := RL) (by decide) rfl hl (by intro v hv; simp only [List.mem_cons, List.not_mem_nil, or_false] at hv; first | (rcases hv with rfl | rfl | rfl | rfl | rfl | rfl <;> rfl) | (rcases hv with rfl | rfl | rfl | rfl | rfl <;> rfl) | (rcases hv with rfl | rfl | rfl | rfl <;> rfl) | (rcases hv with rfl | rfl | rfl <;> rfl) | (rcases hv with rfl | rfl <;> rfl) | (subst hv; rfl) | exact hv.elim) (Nat.le_of_ble_eq_true rfl) (fun X hxl hxk C F NH hnm => ?_)
  subst hxl hxk
  show V X iW 0 [some (.ref (g 0)), some (.int (nI 14)), some (.int a), some (.int b), some (.int c)] [] (cS (xK X) g u) 0 0
  refine v_iload_n C dL_calls_0 rfl ?_
  refine v_tableIn C 281 dL_calls_1 (by decide) (by decide) (off := 280) (by decide) (by decide) ?_
  refine v_aload_n C dL_calls_281 rfl ?_
  refine v_iload_n C dL_calls_282 rfl ?_
  refine v_kVi (K := fun w => w) C Cxt.id M ym_X5_textByte ml_L_79 fix_cS cS_0 rfl rfl rfl dL_calls_283 (by first | omega | exact Nat.le_of_ble_eq_true rfl) (by first | omega | exact Nat.le_of_ble_eq_true rfl) (by first | omega | exact Nat.le_of_ble_eq_true rfl) (Nat.le_of_ble_eq_true rfl) (fun e u hu => v_outG C NH F (by omega) (by omega) (List.Perm.refl _) ⟨u, hu, rfl⟩) (fun r u hu => ?_)
  have hpo := hu
  refine v_i2l C dL_calls_286 rfl ?_
  refine v_lretG C F dL_calls_287 (by first | omega | exact Nat.le_of_ble_eq_true rfl) (by first | omega | exact Nat.le_of_ble_eq_true rfl) rfl (List.Perm.refl _) ?_
  exact ⟨_, _, hpo, rfl⟩
set_option maxHeartbeats 16000000 in
theorem c_calls_15 {l : Launch} (hl : l.stackTraces = false) {κ : Kp} {g : Nat → Nat} {u : Cg} {a b c : Int32} {dM : Nat} {po : Int32 → Cg → Prop} {pxs : String → Cg → Prop} (hdM : dM < 6) (M : Ct SS MM l κ yX5_copy cX5_copy 4 (some FieldType.int) dM 6 36 [.ref (g 0), .int a, .int b, .int c] (cS κ g) u ri po pxs) : CtG SS MM l κ yL_calls cL_calls 5 (some FieldType.long) 6 6 36 [.ref (g 0), .int (nI 15), .int a, .int b, .int c] (cS κ g u) rl (fun _ w => ∃ r u', po r u' ∧ w = cS κ g u') (fun e w => ∃ u', pxs e u' ∧ w = cS κ g u') := by
  refine CtG.of (own := RL) (by decide) rfl hl (by intro v hv; simp only [List.mem_cons, List.not_mem_nil, or_false] at hv; first | (rcases hv with rfl | rfl | rfl | rfl | rfl | rfl <;> rfl) | (rcases hv with rfl | rfl | rfl | rfl | rfl <;> rfl) | (rcases hv with rfl | rfl | rfl | rfl <;> rfl) | (rcases hv with rfl | rfl | rfl <;> rfl) | (rcases hv with rfl | rfl <;> rfl) | (subst hv; rfl) | exact hv.elim) (Nat.le_of_ble_eq_true rfl) (fun X hxl hxk C F NH hnm => ?_)
  subst hxl hxk
  show V X iW 0 [some (.ref (g 0)), some (.int (nI 15)), some (.int a), some (.int b), some (.int c)] [] (cS (xK X) g u) 0 0
  refine v_iload_n C dL_calls_0 rfl ?_
  refine v_tableIn C 288 dL_calls_1 (by decide) (by decide) (off := 287) (by decide) (by decide) ?_
  refine v_aload_n C dL_calls_288 rfl ?_
  refine v_iload_n C dL_calls_289 rfl ?_
  refine v_iload_n C dL_calls_290 rfl ?_
  refine v_iload C dL_calls_291 rfl ?_
  refine v_kVi (K := fun w => w) C Cxt.id M ym_X5_copy ml_L_82 fix_cS cS_0 rfl rfl rfl dL_calls_293 (by first | omega | exact Nat.le_of_ble_eq_true rfl) (by first | omega | exact Nat.le_of_ble_eq_true rfl) (by first | omega | exact Nat.le_of_ble_eq_true rfl) (Nat.le_of_ble_eq_true rfl) (fun e u hu => v_outG C NH F (by omega) (by omega) (List.Perm.refl _) ⟨u, hu, rfl⟩) (fun r u hu => ?_)
  have hpo := hu
  refine v_i2l C dL_calls_296 rfl ?_
  refine v_lretG C F dL_calls_297 (by first | omega | exact Nat.le_of_ble_eq_true rfl) (by first | omega | exact Nat.le_of_ble_eq_true rfl) rfl (List.Perm.refl _) ?_
  exact ⟨_, _, hpo, rfl⟩
set_option maxHeartbeats 16000000 in
theorem c_calls_16 {l : Launch} (hl : l.stackTraces = false) {κ : Kp} {g : Nat → Nat} {u : Cg} {a b c : Int32} {dM : Nat} {po : Int32 → Cg → Prop} {pxs : String → Cg → Prop} (hdM : dM < 6) (M : Ct SS MM l κ yX5_write cX5_write 3 (some FieldType.int) dM 6 36 [.ref (g 0), .int a, .int b] (cS κ g) u ri po pxs) : CtG SS MM l κ yL_calls cL_calls 5 (some FieldType.long) 6 6 36 [.ref (g 0), .int (nI 16), .int a, .int b, .int c] (cS κ g u) rl (fun _ w => ∃ r u', po r u' ∧ w = cS κ g u') (fun e w => ∃ u', pxs e u' ∧ w = cS κ g u') := by
  refine CtG.of (own := RL) (by decide) rfl hl (by intro v hv; simp only [List.mem_cons, List.not_mem_nil, or_false] at hv; first | (rcases hv with rfl | rfl | rfl | rfl | rfl | rfl <;> rfl) | (rcases hv with rfl | rfl | rfl | rfl | rfl <;> rfl) | (rcases hv with rfl | rfl | rfl | rfl <;> rfl) | (rcases hv with rfl | rfl | rfl <;> rfl) | (rcases hv with rfl | rfl <;> rfl) | (subst hv; rfl) | exact hv.elim) (Nat.le_of_ble_eq_true rfl) (fun X hxl hxk C F NH hnm => ?_)
  subst hxl hxk
  show V X iW 0 [some (.ref (g 0)), some (.int (nI 16)), some (.int a), some (.int b), some (.int c)] [] (cS (xK X) g u) 0 0
  refine v_iload_n C dL_calls_0 rfl ?_
  refine v_tableIn C 298 dL_calls_1 (by decide) (by decide) (off := 297) (by decide) (by decide) ?_
  refine v_aload_n C dL_calls_298 rfl ?_
  refine v_iload_n C dL_calls_299 rfl ?_
  refine v_iload_n C dL_calls_300 rfl ?_
  refine v_kVi (K := fun w => w) C Cxt.id M ym_X5_write ml_L_85 fix_cS cS_0 rfl rfl rfl dL_calls_301 (by first | omega | exact Nat.le_of_ble_eq_true rfl) (by first | omega | exact Nat.le_of_ble_eq_true rfl) (by first | omega | exact Nat.le_of_ble_eq_true rfl) (Nat.le_of_ble_eq_true rfl) (fun e u hu => v_outG C NH F (by omega) (by omega) (List.Perm.refl _) ⟨u, hu, rfl⟩) (fun r u hu => ?_)
  have hpo := hu
  refine v_i2l C dL_calls_304 rfl ?_
  refine v_lretG C F dL_calls_305 (by first | omega | exact Nat.le_of_ble_eq_true rfl) (by first | omega | exact Nat.le_of_ble_eq_true rfl) rfl (List.Perm.refl _) ?_
  exact ⟨_, _, hpo, rfl⟩
set_option maxHeartbeats 16000000 in
theorem c_calls_17 {l : Launch} (hl : l.stackTraces = false) {κ : Kp} {g : Nat → Nat} {u : Cg} {a b c : Int32} {dM : Nat} {po : Int32 → Cg → Prop} {pxs : String → Cg → Prop} (hdM : dM < 6) (M : Ct SS MM l κ yX5_fill cX5_fill 4 (some FieldType.int) dM 6 36 [.ref (g 0), .int a, .int b, .int c] (cS κ g) u ri po pxs) : CtG SS MM l κ yL_calls cL_calls 5 (some FieldType.long) 6 6 36 [.ref (g 0), .int (nI 17), .int a, .int b, .int c] (cS κ g u) rl (fun _ w => ∃ r u', po r u' ∧ w = cS κ g u') (fun e w => ∃ u', pxs e u' ∧ w = cS κ g u') := by
  refine CtG.of (own := RL) (by decide) rfl hl (by intro v hv; simp only [List.mem_cons, List.not_mem_nil, or_false] at hv; first | (rcases hv with rfl | rfl | rfl | rfl | rfl | rfl <;> rfl) | (rcases hv with rfl | rfl | rfl | rfl | rfl <;> rfl) | (rcases hv with rfl | rfl | rfl | rfl <;> rfl) | (rcases hv with rfl | rfl | rfl <;> rfl) | (rcases hv with rfl | rfl <;> rfl) | (subst hv; rfl) | exact hv.elim) (Nat.le_of_ble_eq_true rfl) (fun X hxl hxk C F NH hnm => ?_)
  subst hxl hxk
  show V X iW 0 [some (.ref (g 0)), some (.int (nI 17)), some (.int a), some (.int b), some (.int c)] [] (cS (xK X) g u) 0 0
  refine v_iload_n C dL_calls_0 rfl ?_
  refine v_tableIn C 306 dL_calls_1 (by decide) (by decide) (off := 305) (by decide) (by decide) ?_
  refine v_aload_n C dL_calls_306 rfl ?_
  refine v_iload_n C dL_calls_307 rfl ?_
  refine v_iload_n C dL_calls_308 rfl ?_
  refine v_iload C dL_calls_309 rfl ?_
  refine v_kVi (K := fun w => w) C Cxt.id M ym_X5_fill ml_L_88 fix_cS cS_0 rfl rfl rfl dL_calls_311 (by first | omega | exact Nat.le_of_ble_eq_true rfl) (by first | omega | exact Nat.le_of_ble_eq_true rfl) (by first | omega | exact Nat.le_of_ble_eq_true rfl) (Nat.le_of_ble_eq_true rfl) (fun e u hu => v_outG C NH F (by omega) (by omega) (List.Perm.refl _) ⟨u, hu, rfl⟩) (fun r u hu => ?_)
  have hpo := hu
  refine v_i2l C dL_calls_314 rfl ?_
  refine v_lretG C F dL_calls_315 (by first | omega | exact Nat.le_of_ble_eq_true rfl) (by first | omega | exact Nat.le_of_ble_eq_true rfl) rfl (List.Perm.refl _) ?_
  exact ⟨_, _, hpo, rfl⟩
set_option maxHeartbeats 16000000 in
theorem c_calls_18 {l : Launch} (hl : l.stackTraces = false) {κ : Kp} {g : Nat → Nat} {u : Cg} {a b c : Int32} {dM : Nat} {po : Int32 → Cg → Prop} {pxs : String → Cg → Prop} (hdM : dM < 6) (M : Ct SS MM l κ yX5_fetch cX5_fetch 2 (some FieldType.int) dM 6 36 [.ref (g 0), .int a] (cS κ g) u ri po pxs) : CtG SS MM l κ yL_calls cL_calls 5 (some FieldType.long) 6 6 36 [.ref (g 0), .int (nI 18), .int a, .int b, .int c] (cS κ g u) rl (fun _ w => ∃ r u', po r u' ∧ w = cS κ g u') (fun e w => ∃ u', pxs e u' ∧ w = cS κ g u') := by
  refine CtG.of (own := RL) (by decide) rfl hl (by intro v hv; simp only [List.mem_cons, List.not_mem_nil, or_false] at hv; first | (rcases hv with rfl | rfl | rfl | rfl | rfl | rfl <;> rfl) | (rcases hv with rfl | rfl | rfl | rfl | rfl <;> rfl) | (rcases hv with rfl | rfl | rfl | rfl <;> rfl) | (rcases hv with rfl | rfl | rfl <;> rfl) | (rcases hv with rfl | rfl <;> rfl) | (subst hv; rfl) | exact hv.elim) (Nat.le_of_ble_eq_true rfl) (fun X hxl hxk C F NH hnm => ?_)
  subst hxl hxk
  show V X iW 0 [some (.ref (g 0)), some (.int (nI 18)), some (.int a), some (.int b), some (.int c)] [] (cS (xK X) g u) 0 0
  refine v_iload_n C dL_calls_0 rfl ?_
  refine v_tableIn C 316 dL_calls_1 (by decide) (by decide) (off := 315) (by decide) (by decide) ?_
  refine v_aload_n C dL_calls_316 rfl ?_
  refine v_iload_n C dL_calls_317 rfl ?_
  refine v_kVi (K := fun w => w) C Cxt.id M ym_X5_fetch ml_L_91 fix_cS cS_0 rfl rfl rfl dL_calls_318 (by first | omega | exact Nat.le_of_ble_eq_true rfl) (by first | omega | exact Nat.le_of_ble_eq_true rfl) (by first | omega | exact Nat.le_of_ble_eq_true rfl) (Nat.le_of_ble_eq_true rfl) (fun e u hu => v_outG C NH F (by omega) (by omega) (List.Perm.refl _) ⟨u, hu, rfl⟩) (fun r u hu => ?_)
  have hpo := hu
  refine v_i2l C dL_calls_321 rfl ?_
  refine v_lretG C F dL_calls_322 (by first | omega | exact Nat.le_of_ble_eq_true rfl) (by first | omega | exact Nat.le_of_ble_eq_true rfl) rfl (List.Perm.refl _) ?_
  exact ⟨_, _, hpo, rfl⟩
set_option maxHeartbeats 16000000 in
theorem c_calls_19 {l : Launch} (hl : l.stackTraces = false) {κ : Kp} {g : Nat → Nat} {u : Cg} {a b c : Int32} {dM : Nat} {po : Int32 → Cg → Prop} {pxs : String → Cg → Prop} (hdM : dM < 6) (M : Ct SS MM l κ yX5_tick cX5_tick 2 (some FieldType.int) dM 6 36 [.ref (g 0), .int a] (cS κ g) u ri po pxs) : CtG SS MM l κ yL_calls cL_calls 5 (some FieldType.long) 6 6 36 [.ref (g 0), .int (nI 19), .int a, .int b, .int c] (cS κ g u) rl (fun _ w => ∃ r u', po r u' ∧ w = cS κ g u') (fun e w => ∃ u', pxs e u' ∧ w = cS κ g u') := by
  refine CtG.of (own := RL) (by decide) rfl hl (by intro v hv; simp only [List.mem_cons, List.not_mem_nil, or_false] at hv; first | (rcases hv with rfl | rfl | rfl | rfl | rfl | rfl <;> rfl) | (rcases hv with rfl | rfl | rfl | rfl | rfl <;> rfl) | (rcases hv with rfl | rfl | rfl | rfl <;> rfl) | (rcases hv with rfl | rfl | rfl <;> rfl) | (rcases hv with rfl | rfl <;> rfl) | (subst hv; rfl) | exact hv.elim) (Nat.le_of_ble_eq_true rfl) (fun X hxl hxk C F NH hnm => ?_)
  subst hxl hxk
  show V X iW 0 [some (.ref (g 0)), some (.int (nI 19)), some (.int a), some (.int b), some (.int c)] [] (cS (xK X) g u) 0 0
  refine v_iload_n C dL_calls_0 rfl ?_
  refine v_tableIn C 323 dL_calls_1 (by decide) (by decide) (off := 322) (by decide) (by decide) ?_
  refine v_aload_n C dL_calls_323 rfl ?_
  refine v_iload_n C dL_calls_324 rfl ?_
  refine v_kVi (K := fun w => w) C Cxt.id M ym_X5_tick ml_L_94 fix_cS cS_0 rfl rfl rfl dL_calls_325 (by first | omega | exact Nat.le_of_ble_eq_true rfl) (by first | omega | exact Nat.le_of_ble_eq_true rfl) (by first | omega | exact Nat.le_of_ble_eq_true rfl) (Nat.le_of_ble_eq_true rfl) (fun e u hu => v_outG C NH F (by omega) (by omega) (List.Perm.refl _) ⟨u, hu, rfl⟩) (fun r u hu => ?_)
  have hpo := hu
  refine v_i2l C dL_calls_328 rfl ?_
  refine v_lretG C F dL_calls_329 (by first | omega | exact Nat.le_of_ble_eq_true rfl) (by first | omega | exact Nat.le_of_ble_eq_true rfl) rfl (List.Perm.refl _) ?_
  exact ⟨_, _, hpo, rfl⟩
set_option maxHeartbeats 16000000 in
theorem c_calls_20 {l : Launch} (hl : l.stackTraces = false) {κ : Kp} {g : Nat → Nat} {u : Cg} {a b c : Int32} {dM : Nat} {po : Int32 → Cg → Prop} {pxs : String → Cg → Prop} (hdM : dM < 6) (M : Ct SS MM l κ yX5_payRange cX5_payRange 3 (some FieldType.int) dM 6 36 [.ref (g 0), .int a, .int b] (cS κ g) u ri po pxs) : CtG SS MM l κ yL_calls cL_calls 5 (some FieldType.long) 6 6 36 [.ref (g 0), .int (nI 20), .int a, .int b, .int c] (cS κ g u) rl (fun _ w => ∃ r u', po r u' ∧ w = cS κ g u') (fun e w => ∃ u', pxs e u' ∧ w = cS κ g u') := by
  refine CtG.of (own := RL) (by decide) rfl hl (by intro v hv; simp only [List.mem_cons, List.not_mem_nil, or_false] at hv; first | (rcases hv with rfl | rfl | rfl | rfl | rfl | rfl <;> rfl) | (rcases hv with rfl | rfl | rfl | rfl | rfl <;> rfl) | (rcases hv with rfl | rfl | rfl | rfl <;> rfl) | (rcases hv with rfl | rfl | rfl <;> rfl) | (rcases hv with rfl | rfl <;> rfl) | (subst hv; rfl) | exact hv.elim) (Nat.le_of_ble_eq_true rfl) (fun X hxl hxk C F NH hnm => ?_)
  subst hxl hxk
  show V X iW 0 [some (.ref (g 0)), some (.int (nI 20)), some (.int a), some (.int b), some (.int c)] [] (cS (xK X) g u) 0 0
  refine v_iload_n C dL_calls_0 rfl ?_
  refine v_tableIn C 330 dL_calls_1 (by decide) (by decide) (off := 329) (by decide) (by decide) ?_
  refine v_aload_n C dL_calls_330 rfl ?_
  refine v_iload_n C dL_calls_331 rfl ?_
  refine v_iload_n C dL_calls_332 rfl ?_
  refine v_kVi (K := fun w => w) C Cxt.id M ym_X5_payRange ml_L_97 fix_cS cS_0 rfl rfl rfl dL_calls_333 (by first | omega | exact Nat.le_of_ble_eq_true rfl) (by first | omega | exact Nat.le_of_ble_eq_true rfl) (by first | omega | exact Nat.le_of_ble_eq_true rfl) (Nat.le_of_ble_eq_true rfl) (fun e u hu => v_outG C NH F (by omega) (by omega) (List.Perm.refl _) ⟨u, hu, rfl⟩) (fun r u hu => ?_)
  have hpo := hu
  refine v_i2l C dL_calls_336 rfl ?_
  refine v_lretG C F dL_calls_337 (by first | omega | exact Nat.le_of_ble_eq_true rfl) (by first | omega | exact Nat.le_of_ble_eq_true rfl) rfl (List.Perm.refl _) ?_
  exact ⟨_, _, hpo, rfl⟩
set_option maxHeartbeats 16000000 in
theorem c_calls_21 {l : Launch} (hl : l.stackTraces = false) {κ : Kp} {g : Nat → Nat} {u : Cg} {a b c : Int32} {dM : Nat} {po : Int32 → Cg → Prop} {pxs : String → Cg → Prop} (hdM : dM < 6) (M : Ct SS MM l κ yX5_setLock cX5_setLock 3 (some FieldType.int) dM 6 36 [.ref (g 0), .int a, .int (bI (b == 1))] (cS κ g) u ri po pxs) : CtG SS MM l κ yL_calls cL_calls 5 (some FieldType.long) 6 6 36 [.ref (g 0), .int (nI 21), .int a, .int b, .int c] (cS κ g u) rl (fun _ w => ∃ r u', po r u' ∧ w = cS κ g u') (fun e w => ∃ u', pxs e u' ∧ w = cS κ g u') := by
  refine CtG.of (own := RL) (by decide) rfl hl (by intro v hv; simp only [List.mem_cons, List.not_mem_nil, or_false] at hv; first | (rcases hv with rfl | rfl | rfl | rfl | rfl | rfl <;> rfl) | (rcases hv with rfl | rfl | rfl | rfl | rfl <;> rfl) | (rcases hv with rfl | rfl | rfl | rfl <;> rfl) | (rcases hv with rfl | rfl | rfl <;> rfl) | (rcases hv with rfl | rfl <;> rfl) | (subst hv; rfl) | exact hv.elim) (Nat.le_of_ble_eq_true rfl) (fun X hxl hxk C F NH hnm => ?_)
  subst hxl hxk
  show V X iW 0 [some (.ref (g 0)), some (.int (nI 21)), some (.int a), some (.int b), some (.int c)] [] (cS (xK X) g u) 0 0
  refine v_iload_n C dL_calls_0 rfl ?_
  refine v_tableIn C 338 dL_calls_1 (by decide) (by decide) (off := 337) (by decide) (by decide) ?_
  refine v_aload_n C dL_calls_338 rfl ?_
  refine v_iload_n C dL_calls_339 rfl ?_
  refine v_iload_n C dL_calls_340 rfl ?_
  refine v_iconst (v := nI 1) C dL_calls_341 (by decide) ?_
  refine v_icmp_ne C 349 dL_calls_342 (by decide) (fun c342 => ?_) (fun c342 => ?_)
  · have hb : (b == 1) = false := beq_eq_false_iff_ne.mpr c342
    rw [hb] at M
    refine v_iconst (v := nI 0) C dL_calls_349 (by decide) ?_
    refine v_kVi (K := fun w => w) C Cxt.id M ym_X5_setLock ml_L_100 fix_cS cS_0 rfl rfl rfl dL_calls_350 (by first | omega | exact Nat.le_of_ble_eq_true rfl) (by first | omega | exact Nat.le_of_ble_eq_true rfl) (by first | omega | exact Nat.le_of_ble_eq_true rfl) (Nat.le_of_ble_eq_true rfl) (fun e u hu => v_outG C NH F (by omega) (by omega) (List.Perm.refl _) ⟨u, hu, rfl⟩) (fun r u hu => ?_)
    have hpo := hu
    refine v_i2l C dL_calls_353 rfl ?_
    refine v_lretG C F dL_calls_354 (by first | omega | exact Nat.le_of_ble_eq_true rfl) (by first | omega | exact Nat.le_of_ble_eq_true rfl) rfl (List.Perm.refl _) ?_
    exact ⟨_, _, hpo, rfl⟩
  · have hb : (b == 1) = true := beq_iff_eq.mpr c342
    rw [hb] at M
    refine v_iconst (v := nI 1) C dL_calls_345 (by decide) ?_
    refine v_goto C 350 dL_calls_346 (by decide) ?_
    refine v_kVi (K := fun w => w) C Cxt.id M ym_X5_setLock ml_L_100 fix_cS cS_0 rfl rfl rfl dL_calls_350 (by first | omega | exact Nat.le_of_ble_eq_true rfl) (by first | omega | exact Nat.le_of_ble_eq_true rfl) (by first | omega | exact Nat.le_of_ble_eq_true rfl) (Nat.le_of_ble_eq_true rfl) (fun e u hu => v_outG C NH F (by omega) (by omega) (List.Perm.refl _) ⟨u, hu, rfl⟩) (fun r u hu => ?_)
    have hpo := hu
    refine v_i2l C dL_calls_353 rfl ?_
    refine v_lretG C F dL_calls_354 (by first | omega | exact Nat.le_of_ble_eq_true rfl) (by first | omega | exact Nat.le_of_ble_eq_true rfl) rfl (List.Perm.refl _) ?_
    exact ⟨_, _, hpo, rfl⟩
set_option maxHeartbeats 16000000 in
theorem c_calls_22 {l : Launch} (hl : l.stackTraces = false) {κ : Kp} {g : Nat → Nat} {u : Cg} {a b c : Int32} {dM : Nat} {po : Int32 → Cg → Prop} {pxs : String → Cg → Prop} (hdM : dM < 6) (M : Ct SS MM l κ yX5_setSetting cX5_setSetting 4 (some FieldType.int) dM 6 36 [.ref (g 0), .int a, .int b] (cS κ g) u ri po pxs) : CtG SS MM l κ yL_calls cL_calls 5 (some FieldType.long) 6 6 36 [.ref (g 0), .int (nI 22), .int a, .int b, .int c] (cS κ g u) rl (fun _ w => ∃ r u', po r u' ∧ w = cS κ g u') (fun e w => ∃ u', pxs e u' ∧ w = cS κ g u') := by
  refine CtG.of (own := RL) (by decide) rfl hl (by intro v hv; simp only [List.mem_cons, List.not_mem_nil, or_false] at hv; first | (rcases hv with rfl | rfl | rfl | rfl | rfl | rfl <;> rfl) | (rcases hv with rfl | rfl | rfl | rfl | rfl <;> rfl) | (rcases hv with rfl | rfl | rfl | rfl <;> rfl) | (rcases hv with rfl | rfl | rfl <;> rfl) | (rcases hv with rfl | rfl <;> rfl) | (subst hv; rfl) | exact hv.elim) (Nat.le_of_ble_eq_true rfl) (fun X hxl hxk C F NH hnm => ?_)
  subst hxl hxk
  show V X iW 0 [some (.ref (g 0)), some (.int (nI 22)), some (.int a), some (.int b), some (.int c)] [] (cS (xK X) g u) 0 0
  refine v_iload_n C dL_calls_0 rfl ?_
  refine v_tableIn C 355 dL_calls_1 (by decide) (by decide) (off := 354) (by decide) (by decide) ?_
  refine v_aload_n C dL_calls_355 rfl ?_
  refine v_iload_n C dL_calls_356 rfl ?_
  refine v_iload_n C dL_calls_357 rfl ?_
  refine v_kVi (K := fun w => w) C Cxt.id M ym_X5_setSetting ml_L_103 fix_cS cS_0 rfl rfl rfl dL_calls_358 (by first | omega | exact Nat.le_of_ble_eq_true rfl) (by first | omega | exact Nat.le_of_ble_eq_true rfl) (by first | omega | exact Nat.le_of_ble_eq_true rfl) (Nat.le_of_ble_eq_true rfl) (fun e u hu => v_outG C NH F (by omega) (by omega) (List.Perm.refl _) ⟨u, hu, rfl⟩) (fun r u hu => ?_)
  have hpo := hu
  refine v_i2l C dL_calls_361 rfl ?_
  refine v_lretG C F dL_calls_362 (by first | omega | exact Nat.le_of_ble_eq_true rfl) (by first | omega | exact Nat.le_of_ble_eq_true rfl) rfl (List.Perm.refl _) ?_
  exact ⟨_, _, hpo, rfl⟩
set_option maxHeartbeats 16000000 in
theorem c_calls_23 {l : Launch} (hl : l.stackTraces = false) {κ : Kp} {g : Nat → Nat} {u : Cg} {a b c : Int32} {dM : Nat} {po : Int32 → Cg → Prop} {pxs : String → Cg → Prop} (hdM : dM < 6) (M : Ct SS MM l κ yX5_undo cX5_undo 1 (some FieldType.int) dM 6 36 [.ref (g 0)] (cS κ g) u ri po pxs) : CtG SS MM l κ yL_calls cL_calls 5 (some FieldType.long) 6 6 36 [.ref (g 0), .int (nI 23), .int a, .int b, .int c] (cS κ g u) rl (fun _ w => ∃ r u', po r u' ∧ w = cS κ g u') (fun e w => ∃ u', pxs e u' ∧ w = cS κ g u') := by
  refine CtG.of (own := RL) (by decide) rfl hl (by intro v hv; simp only [List.mem_cons, List.not_mem_nil, or_false] at hv; first | (rcases hv with rfl | rfl | rfl | rfl | rfl | rfl <;> rfl) | (rcases hv with rfl | rfl | rfl | rfl | rfl <;> rfl) | (rcases hv with rfl | rfl | rfl | rfl <;> rfl) | (rcases hv with rfl | rfl | rfl <;> rfl) | (rcases hv with rfl | rfl <;> rfl) | (subst hv; rfl) | exact hv.elim) (Nat.le_of_ble_eq_true rfl) (fun X hxl hxk C F NH hnm => ?_)
  subst hxl hxk
  show V X iW 0 [some (.ref (g 0)), some (.int (nI 23)), some (.int a), some (.int b), some (.int c)] [] (cS (xK X) g u) 0 0
  refine v_iload_n C dL_calls_0 rfl ?_
  refine v_tableIn C 363 dL_calls_1 (by decide) (by decide) (off := 362) (by decide) (by decide) ?_
  refine v_aload_n C dL_calls_363 rfl ?_
  refine v_kVi (K := fun w => w) C Cxt.id M ym_X5_undo ml_L_106 fix_cS cS_0 rfl rfl rfl dL_calls_364 (by first | omega | exact Nat.le_of_ble_eq_true rfl) (by first | omega | exact Nat.le_of_ble_eq_true rfl) (by first | omega | exact Nat.le_of_ble_eq_true rfl) (Nat.le_of_ble_eq_true rfl) (fun e u hu => v_outG C NH F (by omega) (by omega) (List.Perm.refl _) ⟨u, hu, rfl⟩) (fun r u hu => ?_)
  have hpo := hu
  refine v_i2l C dL_calls_367 rfl ?_
  refine v_lretG C F dL_calls_368 (by first | omega | exact Nat.le_of_ble_eq_true rfl) (by first | omega | exact Nat.le_of_ble_eq_true rfl) rfl (List.Perm.refl _) ?_
  exact ⟨_, _, hpo, rfl⟩
set_option maxHeartbeats 16000000 in
theorem c_calls_27 {l : Launch} (hl : l.stackTraces = false) {κ : Kp} {g : Nat → Nat} {u : Cg} {a b c : Int32} {dM : Nat} {po : Int32 → Cg → Prop} {pxs : String → Cg → Prop} (hdM : dM < 6) (M : Ct SS MM l κ yX5_costOfCopy cX5_costOfCopy 4 (some FieldType.int) dM 6 36 [.ref (g 0), .int a, .int b, .int c] (cS κ g) u ri po pxs) : CtG SS MM l κ yL_calls cL_calls 5 (some FieldType.long) 6 6 36 [.ref (g 0), .int (nI 27), .int a, .int b, .int c] (cS κ g u) rl (fun _ w => ∃ r u', po r u' ∧ w = cS κ g u') (fun e w => ∃ u', pxs e u' ∧ w = cS κ g u') := by
  refine CtG.of (own := RL) (by decide) rfl hl (by intro v hv; simp only [List.mem_cons, List.not_mem_nil, or_false] at hv; first | (rcases hv with rfl | rfl | rfl | rfl | rfl | rfl <;> rfl) | (rcases hv with rfl | rfl | rfl | rfl | rfl <;> rfl) | (rcases hv with rfl | rfl | rfl | rfl <;> rfl) | (rcases hv with rfl | rfl | rfl <;> rfl) | (rcases hv with rfl | rfl <;> rfl) | (subst hv; rfl) | exact hv.elim) (Nat.le_of_ble_eq_true rfl) (fun X hxl hxk C F NH hnm => ?_)
  subst hxl hxk
  show V X iW 0 [some (.ref (g 0)), some (.int (nI 27)), some (.int a), some (.int b), some (.int c)] [] (cS (xK X) g u) 0 0
  refine v_iload_n C dL_calls_0 rfl ?_
  refine v_tableIn C 390 dL_calls_1 (by decide) (by decide) (off := 389) (by decide) (by decide) ?_
  refine v_aload_n C dL_calls_390 rfl ?_
  refine v_iload_n C dL_calls_391 rfl ?_
  refine v_iload_n C dL_calls_392 rfl ?_
  refine v_iload C dL_calls_393 rfl ?_
  refine v_kVi (K := fun w => w) C Cxt.id M ym_X5_costOfCopy ml_L_115 fix_cS cS_0 rfl rfl rfl dL_calls_395 (by first | omega | exact Nat.le_of_ble_eq_true rfl) (by first | omega | exact Nat.le_of_ble_eq_true rfl) (by first | omega | exact Nat.le_of_ble_eq_true rfl) (Nat.le_of_ble_eq_true rfl) (fun e u hu => v_outG C NH F (by omega) (by omega) (List.Perm.refl _) ⟨u, hu, rfl⟩) (fun r u hu => ?_)
  have hpo := hu
  refine v_i2l C dL_calls_398 rfl ?_
  refine v_lretG C F dL_calls_399 (by first | omega | exact Nat.le_of_ble_eq_true rfl) (by first | omega | exact Nat.le_of_ble_eq_true rfl) rfl (List.Perm.refl _) ?_
  exact ⟨_, _, hpo, rfl⟩
set_option maxHeartbeats 16000000 in
theorem c_calls_29 {l : Launch} (hl : l.stackTraces = false) {κ : Kp} {g : Nat → Nat} {u : Cg} {a b c : Int32} {dM : Nat} {po : Int32 → Cg → Prop} {pxs : String → Cg → Prop} (hdM : dM < 6) (M : Ct SS MM l κ yX5_owed cX5_owed 1 (some FieldType.int) dM 6 36 [.ref (g 0)] (cS κ g) u ri po pxs) : CtG SS MM l κ yL_calls cL_calls 5 (some FieldType.long) 6 6 36 [.ref (g 0), .int (nI 29), .int a, .int b, .int c] (cS κ g u) rl (fun _ w => ∃ r u', po r u' ∧ w = cS κ g u') (fun e w => ∃ u', pxs e u' ∧ w = cS κ g u') := by
  refine CtG.of (own := RL) (by decide) rfl hl (by intro v hv; simp only [List.mem_cons, List.not_mem_nil, or_false] at hv; first | (rcases hv with rfl | rfl | rfl | rfl | rfl | rfl <;> rfl) | (rcases hv with rfl | rfl | rfl | rfl | rfl <;> rfl) | (rcases hv with rfl | rfl | rfl | rfl <;> rfl) | (rcases hv with rfl | rfl | rfl <;> rfl) | (rcases hv with rfl | rfl <;> rfl) | (subst hv; rfl) | exact hv.elim) (Nat.le_of_ble_eq_true rfl) (fun X hxl hxk C F NH hnm => ?_)
  subst hxl hxk
  show V X iW 0 [some (.ref (g 0)), some (.int (nI 29)), some (.int a), some (.int b), some (.int c)] [] (cS (xK X) g u) 0 0
  refine v_iload_n C dL_calls_0 rfl ?_
  refine v_tableIn C 451 dL_calls_1 (by decide) (by decide) (off := 450) (by decide) (by decide) ?_
  refine v_aload_n C dL_calls_451 rfl ?_
  refine v_kVi (K := fun w => w) C Cxt.id M ym_X5_owed ml_L_136 fix_cS cS_0 rfl rfl rfl dL_calls_452 (by first | omega | exact Nat.le_of_ble_eq_true rfl) (by first | omega | exact Nat.le_of_ble_eq_true rfl) (by first | omega | exact Nat.le_of_ble_eq_true rfl) (Nat.le_of_ble_eq_true rfl) (fun e u hu => v_outG C NH F (by omega) (by omega) (List.Perm.refl _) ⟨u, hu, rfl⟩) (fun r u hu => ?_)
  have hpo := hu
  refine v_i2l C dL_calls_455 rfl ?_
  refine v_lretG C F dL_calls_456 (by first | omega | exact Nat.le_of_ble_eq_true rfl) (by first | omega | exact Nat.le_of_ble_eq_true rfl) rfl (List.Perm.refl _) ?_
  exact ⟨_, _, hpo, rfl⟩
set_option maxHeartbeats 16000000 in
theorem c_calls_30 {l : Launch} (hl : l.stackTraces = false) {κ : Kp} {g : Nat → Nat} {u : Cg} {a b c : Int32} {dM : Nat} {po : Int32 → Cg → Prop} {pxs : String → Cg → Prop} (hdM : dM < 6) (M : Ct SS MM l κ yX5_shorten cX5_shorten 3 (some FieldType.int) dM 6 36 [.ref (g 0), .int a] (cS κ g) u ri po pxs) : CtG SS MM l κ yL_calls cL_calls 5 (some FieldType.long) 6 6 36 [.ref (g 0), .int (nI 30), .int a, .int b, .int c] (cS κ g u) rl (fun _ w => ∃ r u', po r u' ∧ w = cS κ g u') (fun e w => ∃ u', pxs e u' ∧ w = cS κ g u') := by
  refine CtG.of (own := RL) (by decide) rfl hl (by intro v hv; simp only [List.mem_cons, List.not_mem_nil, or_false] at hv; first | (rcases hv with rfl | rfl | rfl | rfl | rfl | rfl <;> rfl) | (rcases hv with rfl | rfl | rfl | rfl | rfl <;> rfl) | (rcases hv with rfl | rfl | rfl | rfl <;> rfl) | (rcases hv with rfl | rfl | rfl <;> rfl) | (rcases hv with rfl | rfl <;> rfl) | (subst hv; rfl) | exact hv.elim) (Nat.le_of_ble_eq_true rfl) (fun X hxl hxk C F NH hnm => ?_)
  subst hxl hxk
  show V X iW 0 [some (.ref (g 0)), some (.int (nI 30)), some (.int a), some (.int b), some (.int c)] [] (cS (xK X) g u) 0 0
  refine v_iload_n C dL_calls_0 rfl ?_
  refine v_tableIn C 410 dL_calls_1 (by decide) (by decide) (off := 409) (by decide) (by decide) ?_
  refine v_aload_n C dL_calls_410 rfl ?_
  refine v_iload_n C dL_calls_411 rfl ?_
  refine v_kVi (K := fun w => w) C Cxt.id M ym_X5_shorten ml_L_121 fix_cS cS_0 rfl rfl rfl dL_calls_412 (by first | omega | exact Nat.le_of_ble_eq_true rfl) (by first | omega | exact Nat.le_of_ble_eq_true rfl) (by first | omega | exact Nat.le_of_ble_eq_true rfl) (Nat.le_of_ble_eq_true rfl) (fun e u hu => v_outG C NH F (by omega) (by omega) (List.Perm.refl _) ⟨u, hu, rfl⟩) (fun r u hu => ?_)
  have hpo := hu
  refine v_i2l C dL_calls_415 rfl ?_
  refine v_lretG C F dL_calls_416 (by first | omega | exact Nat.le_of_ble_eq_true rfl) (by first | omega | exact Nat.le_of_ble_eq_true rfl) rfl (List.Perm.refl _) ?_
  exact ⟨_, _, hpo, rfl⟩
set_option maxHeartbeats 16000000 in
theorem c_calls_31 {l : Launch} (hl : l.stackTraces = false) {κ : Kp} {g : Nat → Nat} {u : Cg} {a b c : Int32} {dM : Nat} {po : Int32 → Cg → Prop} {pxs : String → Cg → Prop} (hdM : dM < 6) (M : Ct SS MM l κ yX5_exchange cX5_exchange 3 (some FieldType.int) dM 6 36 [.ref (g 0), .int a, .int b] (cS κ g) u ri po pxs) : CtG SS MM l κ yL_calls cL_calls 5 (some FieldType.long) 6 6 36 [.ref (g 0), .int (nI 31), .int a, .int b, .int c] (cS κ g u) rl (fun _ w => ∃ r u', po r u' ∧ w = cS κ g u') (fun e w => ∃ u', pxs e u' ∧ w = cS κ g u') := by
  refine CtG.of (own := RL) (by decide) rfl hl (by intro v hv; simp only [List.mem_cons, List.not_mem_nil, or_false] at hv; first | (rcases hv with rfl | rfl | rfl | rfl | rfl | rfl <;> rfl) | (rcases hv with rfl | rfl | rfl | rfl | rfl <;> rfl) | (rcases hv with rfl | rfl | rfl | rfl <;> rfl) | (rcases hv with rfl | rfl | rfl <;> rfl) | (rcases hv with rfl | rfl <;> rfl) | (subst hv; rfl) | exact hv.elim) (Nat.le_of_ble_eq_true rfl) (fun X hxl hxk C F NH hnm => ?_)
  subst hxl hxk
  show V X iW 0 [some (.ref (g 0)), some (.int (nI 31)), some (.int a), some (.int b), some (.int c)] [] (cS (xK X) g u) 0 0
  refine v_iload_n C dL_calls_0 rfl ?_
  refine v_tableIn C 417 dL_calls_1 (by decide) (by decide) (off := 416) (by decide) (by decide) ?_
  refine v_aload_n C dL_calls_417 rfl ?_
  refine v_iload_n C dL_calls_418 rfl ?_
  refine v_iload_n C dL_calls_419 rfl ?_
  refine v_kVi (K := fun w => w) C Cxt.id M ym_X5_exchange ml_L_124 fix_cS cS_0 rfl rfl rfl dL_calls_420 (by first | omega | exact Nat.le_of_ble_eq_true rfl) (by first | omega | exact Nat.le_of_ble_eq_true rfl) (by first | omega | exact Nat.le_of_ble_eq_true rfl) (Nat.le_of_ble_eq_true rfl) (fun e u hu => v_outG C NH F (by omega) (by omega) (List.Perm.refl _) ⟨u, hu, rfl⟩) (fun r u hu => ?_)
  have hpo := hu
  refine v_i2l C dL_calls_423 rfl ?_
  refine v_lretG C F dL_calls_424 (by first | omega | exact Nat.le_of_ble_eq_true rfl) (by first | omega | exact Nat.le_of_ble_eq_true rfl) rfl (List.Perm.refl _) ?_
  exact ⟨_, _, hpo, rfl⟩
set_option maxHeartbeats 16000000 in
theorem c_calls_32 {l : Launch} (hl : l.stackTraces = false) {κ : Kp} {g : Nat → Nat} {u : Cg} {a b c : Int32} {dM : Nat} {po : Int32 → Cg → Prop} {pxs : String → Cg → Prop} (hdM : dM < 6) (M : Ct SS MM l κ yX5_move cX5_move 8 (some FieldType.int) dM 6 36 [.ref (g 0), .int a, .int b, .int c] (cS κ g) u ri po pxs) : CtG SS MM l κ yL_calls cL_calls 5 (some FieldType.long) 6 6 36 [.ref (g 0), .int (nI 32), .int a, .int b, .int c] (cS κ g u) rl (fun _ w => ∃ r u', po r u' ∧ w = cS κ g u') (fun e w => ∃ u', pxs e u' ∧ w = cS κ g u') := by
  refine CtG.of (own := RL) (by decide) rfl hl (by intro v hv; simp only [List.mem_cons, List.not_mem_nil, or_false] at hv; first | (rcases hv with rfl | rfl | rfl | rfl | rfl | rfl <;> rfl) | (rcases hv with rfl | rfl | rfl | rfl | rfl <;> rfl) | (rcases hv with rfl | rfl | rfl | rfl <;> rfl) | (rcases hv with rfl | rfl | rfl <;> rfl) | (rcases hv with rfl | rfl <;> rfl) | (subst hv; rfl) | exact hv.elim) (Nat.le_of_ble_eq_true rfl) (fun X hxl hxk C F NH hnm => ?_)
  subst hxl hxk
  show V X iW 0 [some (.ref (g 0)), some (.int (nI 32)), some (.int a), some (.int b), some (.int c)] [] (cS (xK X) g u) 0 0
  refine v_iload_n C dL_calls_0 rfl ?_
  refine v_tableIn C 425 dL_calls_1 (by decide) (by decide) (off := 424) (by decide) (by decide) ?_
  refine v_aload_n C dL_calls_425 rfl ?_
  refine v_iload_n C dL_calls_426 rfl ?_
  refine v_iload_n C dL_calls_427 rfl ?_
  refine v_iload C dL_calls_428 rfl ?_
  refine v_kVi (K := fun w => w) C Cxt.id M ym_X5_move ml_L_127 fix_cS cS_0 rfl rfl rfl dL_calls_430 (by first | omega | exact Nat.le_of_ble_eq_true rfl) (by first | omega | exact Nat.le_of_ble_eq_true rfl) (by first | omega | exact Nat.le_of_ble_eq_true rfl) (Nat.le_of_ble_eq_true rfl) (fun e u hu => v_outG C NH F (by omega) (by omega) (List.Perm.refl _) ⟨u, hu, rfl⟩) (fun r u hu => ?_)
  have hpo := hu
  refine v_i2l C dL_calls_433 rfl ?_
  refine v_lretG C F dL_calls_434 (by first | omega | exact Nat.le_of_ble_eq_true rfl) (by first | omega | exact Nat.le_of_ble_eq_true rfl) rfl (List.Perm.refl _) ?_
  exact ⟨_, _, hpo, rfl⟩
set_option maxHeartbeats 16000000 in
theorem c_calls_33 {l : Launch} (hl : l.stackTraces = false) {κ : Kp} {g : Nat → Nat} {u : Cg} {a b c : Int32} {dM : Nat} {po : Int32 → Cg → Prop} {pxs : String → Cg → Prop} (hdM : dM < 6) (M : Ct SS MM l κ yX5_forcedByFill cX5_forcedByFill 3 (some FieldType.int) dM 6 36 [.ref (g 0), .int a, .int b] (cS κ g) u ri po pxs) : CtG SS MM l κ yL_calls cL_calls 5 (some FieldType.long) 6 6 36 [.ref (g 0), .int (nI 33), .int a, .int b, .int c] (cS κ g u) rl (fun _ w => ∃ r u', po r u' ∧ w = cS κ g u') (fun e w => ∃ u', pxs e u' ∧ w = cS κ g u') := by
  refine CtG.of (own := RL) (by decide) rfl hl (by intro v hv; simp only [List.mem_cons, List.not_mem_nil, or_false] at hv; first | (rcases hv with rfl | rfl | rfl | rfl | rfl | rfl <;> rfl) | (rcases hv with rfl | rfl | rfl | rfl | rfl <;> rfl) | (rcases hv with rfl | rfl | rfl | rfl <;> rfl) | (rcases hv with rfl | rfl | rfl <;> rfl) | (rcases hv with rfl | rfl <;> rfl) | (subst hv; rfl) | exact hv.elim) (Nat.le_of_ble_eq_true rfl) (fun X hxl hxk C F NH hnm => ?_)
  subst hxl hxk
  show V X iW 0 [some (.ref (g 0)), some (.int (nI 33)), some (.int a), some (.int b), some (.int c)] [] (cS (xK X) g u) 0 0
  refine v_iload_n C dL_calls_0 rfl ?_
  refine v_tableIn C 435 dL_calls_1 (by decide) (by decide) (off := 434) (by decide) (by decide) ?_
  refine v_aload_n C dL_calls_435 rfl ?_
  refine v_iload_n C dL_calls_436 rfl ?_
  refine v_iload_n C dL_calls_437 rfl ?_
  refine v_kVi (K := fun w => w) C Cxt.id M ym_X5_forcedByFill ml_L_130 fix_cS cS_0 rfl rfl rfl dL_calls_438 (by first | omega | exact Nat.le_of_ble_eq_true rfl) (by first | omega | exact Nat.le_of_ble_eq_true rfl) (by first | omega | exact Nat.le_of_ble_eq_true rfl) (Nat.le_of_ble_eq_true rfl) (fun e u hu => v_outG C NH F (by omega) (by omega) (List.Perm.refl _) ⟨u, hu, rfl⟩) (fun r u hu => ?_)
  have hpo := hu
  refine v_i2l C dL_calls_441 rfl ?_
  refine v_lretG C F dL_calls_442 (by first | omega | exact Nat.le_of_ble_eq_true rfl) (by first | omega | exact Nat.le_of_ble_eq_true rfl) rfl (List.Perm.refl _) ?_
  exact ⟨_, _, hpo, rfl⟩
/-- the number that thrown gives for an exception -/
def exN (e : String) : Nat := if e = EIS then 1 else if e = EIO then 2 else 3
theorem ysh_L_thrown : YsH yL_thrown cL_thrown 6 (some .int) [(0, 21, 22, 145), (0, 21, 26, 147), (0, 21, 30, 149)] 5 := ⟨⟨TT_t 939 (by decide +kernel) (by decide +kernel), TT_t 0 (by decide +kernel) (by decide +kernel), TT_t 940 (by decide +kernel) (by decide +kernel)⟩, by decide +kernel, by decide +kernel, by decide +kernel, by decide⟩
theorem ct_145 : Cond.classLink RL 145 EIS ∈ TT := TT_t 941 (by decide +kernel) (by decide +kernel)
theorem ct_147 : Cond.classLink RL 147 EIO ∈ TT := TT_t 942 (by decide +kernel) (by decide +kernel)
theorem ct_149 : Cond.classLink RL 149 EIA ∈ TT := TT_t 943 (by decide +kernel) (by decide +kernel)
theorem ca_EIO : Cond.castable EIO EIO ∈ TD := TD_t 655 (by decide +kernel) rfl
theorem ca_EIA : Cond.castable EIA EIA ∈ TD := TD_t 914 (by decide +kernel) rfl
theorem ca_EIS : Cond.castable EIS EIS ∈ TD := TD_t 957 (by decide +kernel) rfl
theorem ex_3 {e : String} {cd : List (Bool × Nat)} {k : Nat} (h : cdL cd = k) (z : Th3 e (cdL cd)) : exN e = k := by
  rw [h] at z
  rcases z with ⟨rfl, rfl⟩ | ⟨rfl, rfl⟩ | ⟨rfl, rfl⟩ <;> decide
theorem ex_A {e : String} {cd : List (Bool × Nat)} (h : cdL cd = 2) (z : ThA e (cdL cd)) : exN e = 3 := by
  rw [h] at z
  rcases z with ⟨-, h⟩ | ⟨rfl, -⟩
  · cases h
  · decide
theorem ex_A1 {e : String} {cd : List (Bool × Nat)} (h : cdL cd = 1) (z : ThA e (cdL cd)) : exN e = 1 := by
  rw [h] at z
  rcases z with ⟨rfl, -⟩ | ⟨-, h⟩
  · decide
  · cases h
theorem ex_U {e : String} {cd : List (Bool × Nat)} (z : ThU e (cdL cd)) : exN e = 1 := by
  rw [z.1]
  decide
theorem ex_O {e : String} {cd : List (Bool × Nat)} (z : ThO e (cdL cd)) : exN e = 2 := by
  rw [z.1]
  decide
set_option maxHeartbeats 16000000 in
theorem c_thrown {l : Launch} (hl : l.stackTraces = false) {κ : Kp} {g : Nat → Nat} {u : Cg} {x a b c : Int32} {mc ms : Nat} (hmc : mc ≤ 6) (hms : ms ≤ 36) {px : String → Cg → Prop} {po : Int64 → va_W → Prop} (M : CtG SS MM l κ yL_calls cL_calls 5 (some .long) 6 mc ms [.ref (g 0), .int x, .int a, .int b, .int c] (cS κ g u) rl po (fun e w => ∃ u', px e u' ∧ w = cS κ g u')) (hno : ∀ r w, po r w → False) (hE : ∀ e u', px e u' → e = EIS ∨ e = EIO ∨ e = EIA) :
    CtGH SS MM l κ yL_thrown cL_thrown 6 (some .int) [(0, 21, 22, 145), (0, 21, 26, 147), (0, 21, 30, 149)] 7 6 36 [.ref (g 0), .int x, .int a, .int b, .int c] (cS κ g u) ri (fun r w => ∃ e u', px e u' ∧ r = nI (exN e) ∧ w = cS κ g u') (fun _ _ => False) := by
  refine CtGH.of (own := RL) (by decide) rfl hl (by intro v hv; simp only [List.mem_cons, List.not_mem_nil, or_false] at hv; rcases hv with rfl | rfl | rfl | rfl | rfl <;> rfl) (Nat.le_of_ble_eq_true rfl) (fun X hxl hxk C F T => ?_)
  subst hxl hxk
  show V X iW 0 [some (.ref (g 0)), some (.int x), some (.int a), some (.int b), some (.int c), none] [] (cS (xK X) g u) 0 0
  refine v_aload_n C dL_thrown_0 rfl ?_
  refine v_iload_n C dL_thrown_1 rfl ?_
  refine v_iload_n C dL_thrown_2 rfl ?_
  refine v_iload_n C dL_thrown_3 rfl ?_
  refine v_iload C dL_thrown_4 rfl ?_
  refine v_gSl (K := fun w => w) C Cxt.id M ys_L_calls ml_L_139 rfl rfl dL_thrown_6 (Nat.le_of_ble_eq_true rfl) (by omega) (by omega) (Nat.le_of_ble_eq_true rfl) (fun e w hw => ?_) (fun r w hw => (hno r w hw).elim)
  obtain ⟨u2, hp, rfl⟩ := hw
  rcases hE e u2 hp with rfl | rfl | rfl
  · refine v_catch (Wd := iW) C T [] 0 21 22 145 [(0, 21, 26, 147), (0, 21, 30, 149)] rfl (fun z hz => by cases hz) ⟨by decide, by decide⟩ (by decide) ct_145 ca_EIS (fun q => ?_)
    refine v_astore C (lo2 := [some _, some _, some _, some _, some _, some _]) dL_thrown_22 rfl (Nat.le_of_ble_eq_true rfl) rfl ?_
    refine v_iconst (v := nI 1) C dL_thrown_24 (by decide) ?_
    exact v_iretG C F rfl dL_thrown_25 (by omega) (by omega) rfl (List.Perm.refl _) ⟨EIS, u2, hp, rfl, rfl⟩
  · refine v_catch (Wd := iW) C T [(0, 21, 22, 145)] 0 21 26 147 [(0, 21, 30, 149)] rfl (fun z hz => by obtain rfl := List.mem_singleton.mp hz; exact ⟨by decide, EIS, ct_145, List.mem_of_getElem? (i := 1) rfl⟩) ⟨by decide, by decide⟩ (by decide) ct_147 ca_EIO (fun q => ?_)
    refine v_astore C (lo2 := [some _, some _, some _, some _, some _, some _]) dL_thrown_26 rfl (Nat.le_of_ble_eq_true rfl) rfl ?_
    refine v_iconst (v := nI 2) C dL_thrown_28 (by decide) ?_
    exact v_iretG C F rfl dL_thrown_29 (by omega) (by omega) rfl (List.Perm.refl _) ⟨EIO, u2, hp, by decide, rfl⟩
  · refine v_catch (Wd := iW) C T [(0, 21, 22, 145), (0, 21, 26, 147)] 0 21 30 149 [] rfl (fun z hz => by
      rcases List.mem_cons.mp hz with rfl | hz
      · exact ⟨by decide, EIS, ct_145, List.mem_of_getElem? (i := 3) rfl⟩
      · obtain rfl := List.mem_singleton.mp hz
        exact ⟨by decide, EIO, ct_147, List.mem_of_getElem? (i := 2) rfl⟩) ⟨by decide, by decide⟩ (by decide) ct_149 ca_EIA (fun q => ?_)
    refine v_astore C (lo2 := [some _, some _, some _, some _, some _, some _]) dL_thrown_30 rfl (Nat.le_of_ble_eq_true rfl) rfl ?_
    refine v_iconst (v := nI 3) C dL_thrown_32 (by decide) ?_
    exact v_iretG C F rfl dL_thrown_33 (by omega) (by omega) rfl (List.Perm.refl _) ⟨EIA, u2, hp, by decide, rfl⟩
set_option maxHeartbeats 16000000 in
theorem c_L_isText {l : Launch} (hl : l.stackTraces = false) {κ : Kp} {g : Nat → Nat} {m : Mg} {u : Cg} {a v N : Nat} {T : List Nat} (hG : GT m (T.map nI) u) (hS : SbOK N T) (hT : T.length ≤ 500) : CtG SS MM l κ yL_isText cL_isText 3 (some FieldType.boolean) 8 3100 19000 [.ref (g 0), .ref a] (cS κ g u ++ sbW κ a v N T) ri (fun r w => r = nI 1 ∧ ∃ u', GT m (T.map nI) u' ∧ w = cS κ g u' ++ sbW κ a v N T) (fun _ _ => False) := by
  refine CtG.of (own := RL) (by decide) rfl hl (by intro v hv; simp only [List.mem_cons, List.not_mem_nil, or_false] at hv; first | (rcases hv with rfl | rfl | rfl | rfl | rfl | rfl <;> rfl) | (rcases hv with rfl | rfl | rfl | rfl | rfl <;> rfl) | (rcases hv with rfl | rfl | rfl | rfl <;> rfl) | (rcases hv with rfl | rfl | rfl <;> rfl) | (rcases hv with rfl | rfl <;> rfl) | (subst hv; rfl) | exact hv.elim) (Nat.le_of_ble_eq_true rfl) (fun X hxl hxk C F NH hnm => ?_)
  subst hxl hxk
  show V X iW 0 [some (.ref (g 0)), some (.ref a), none] [] (cS (xK X) g u ++ sbW (xK X) a v N T) 0 0
  obtain ⟨s, ⟨sT, mT⟩, rr, hh, sl, tx, L0, rfl, hH, hX⟩ := hG
  have hlen : (T.map nI).length = T.length := List.length_map ..
  refine v_iconst (v := nI 0) C dL_isText_0 (by decide) ?_
  refine v_istore_n C (lo2 := [some _, some _, some _]) dL_isText_1 rfl (Nat.le_of_ble_eq_true rfl) rfl ?_
  have L2 : ∀ (t : Nat), (fun t => t ≤ T.length) t → (fun t : Nat => V X iW 2 [some (.ref (g 0)), some (.ref a), some (.int (nI t))] [] (cS (xK X) g ((s, m), (sT, mT), rr, hh, sl, tx) ++ sbW (xK X) a v N T) (6 * t) (36 * t)) t := by
    refine v_ind (fun t : Nat => T.length - t) ?_
    rintro j ih2 hI2
    try dsimp only at hI2 ⊢
    refine v_iload_n C dL_isText_2 rfl ?_
    refine v_aload_n C dL_isText_3 rfl ?_
    refine v_gVi (K := fun w => cS (xK X) g ((s, m), (sT, mT), rr, hh, sl, tx) ++ w) C (Cxt.l _ Cxt.id) 0 (c_J4_length_8abf5 hl) ym_J4_length_8abf5 ml_L_303 rfl rfl rfl rfl dL_isText_4 (by first | omega | exact Nat.le_of_ble_eq_true rfl) (by first | omega | exact Nat.le_of_ble_eq_true rfl) (by first | omega | exact Nat.le_of_ble_eq_true rfl) (Nat.le_of_ble_eq_true rfl) (fun _ _ hu => hu.elim) (fun r u hu => ?_)
    obtain ⟨rfl, rfl⟩ := hu
    first | refine v_icmp_geN C 31 dL_isText_7 (by decide) (by omega) (by omega) (fun c7 => ?_) (fun c7 => ?_) | refine v_icmp_ge C 31 dL_isText_7 (by decide) (fun c7 => ?_) (fun c7 => ?_)
    · refine v_aload_n C dL_isText_31 rfl ?_
      refine v_bipush (v := nI 14) C dL_isText_32 (by decide) ?_
      refine v_aload_n C dL_isText_34 rfl ?_
      refine v_gVi (K := fun w => cS (xK X) g ((s, m), (sT, mT), rr, hh, sl, tx) ++ w) C (Cxt.l _ Cxt.id) 0 (c_J4_length_8abf5 hl) ym_J4_length_8abf5 ml_L_303 rfl rfl rfl rfl dL_isText_35 (by first | omega | exact Nat.le_of_ble_eq_true rfl) (by first | omega | exact Nat.le_of_ble_eq_true rfl) (by first | omega | exact Nat.le_of_ble_eq_true rfl) (Nat.le_of_ble_eq_true rfl) (fun _ _ hu => hu.elim) (fun r u hu => ?_)
      obtain ⟨rfl, rfl⟩ := hu
      refine v_iconst (v := nI 0) C dL_isText_38 (by decide) ?_
      refine v_iconst (v := nI 0) C dL_isText_39 (by decide) ?_
      refine v_gSHi (K := fun w => w ++ sbW (xK X) a v N T) C (Cxt.r _ Cxt.id) (c_thrown hl (Nat.le_of_ble_eq_true rfl) (Nat.le_of_ble_eq_true rfl) (c_calls_14 (b := _) (c := _) hl (by decide) (c_X5_textByte hl hX (by rw [hlen]; omega))) (fun _ _ hu => by
          obtain ⟨_, _, hz, _⟩ := hu
          have hy := hz.1.1
          rw [(show cdL [(!inB (nI T.length) 0 (((T.map nI).length : Int) - 1), 1)] = 1 by rw [cdL_t (by rw [inB_no (by rw [nI_toInt (by omega), hlen]; omega)]; rfl)])] at hy
          exact absurd hy (by decide)) (fun _ _ hp => tO_E hp.1)) ysh_L_thrown ml_L_226 rfl rfl dL_isText_40 (Nat.le_of_ble_eq_true rfl) (by first | omega | exact Nat.le_of_ble_eq_true rfl) (by first | omega | exact Nat.le_of_ble_eq_true rfl) (Nat.le_of_ble_eq_true rfl) (fun _ _ hu => hu.elim) (fun r u hu => ?_)
      obtain ⟨e9, u9, hp, rfl, rfl⟩ := hu
      rw [show exN e9 = 2 from ex_O hp.1]
      obtain rfl := hp.2
      refine v_iconst (v := nI 2) C dL_isText_43 (by decide) ?_
      refine v_icmp_ne C 51 dL_isText_44 (by decide) (fun c => absurd c (by decide)) (fun c44 => ?_)
      refine v_iconst (v := nI 1) C dL_isText_47 (by decide) ?_
      refine v_goto C 52 dL_isText_48 (by decide) ?_
      refine v_iretG C F (by first | rfl | exact bI_nar _) dL_isText_52 (by first | omega | exact Nat.le_of_ble_eq_true rfl) (by first | omega | exact Nat.le_of_ble_eq_true rfl) rfl (List.Perm.refl _) ?_
      exact ⟨rfl, _, ⟨s, (sT, mT), rr, hh, sl, tx, L0, rfl, hH, hX⟩, rfl⟩
    · have hj : j < T.length := c7
      refine v_aload_n C dL_isText_10 rfl ?_
      refine v_iload_n C dL_isText_11 rfl ?_
      refine v_kVi (K := fun w => w ++ sbW (xK X) a v N T) C (Cxt.r _ Cxt.id) (c_X5_textByte hl hX (by rw [hlen]; omega)) ym_X5_textByte ml_L_79 fix_cS cS_0 rfl rfl rfl dL_isText_12 (by first | omega | exact Nat.le_of_ble_eq_true rfl) (by first | omega | exact Nat.le_of_ble_eq_true rfl) (by first | omega | exact Nat.le_of_ble_eq_true rfl) (Nat.le_of_ble_eq_true rfl) (fun _ _ hu => (noO (by rw [hlen, cdL_f (by rw [inB_n (by omega) (by omega) (by omega)]; rfl)]; rfl) hu.1).elim) (fun r u hu => ?_)
      obtain ⟨⟨-, rfl⟩, rfl⟩ := hu
      rw [tN_nI (by omega), map_getD]
      refine v_aload_n C dL_isText_15 rfl ?_
      refine v_iload_n C dL_isText_16 rfl ?_
      refine v_gVi (K := fun w => cS (xK X) g ((s, m), (sT, mT), rr, hh, sl, tx) ++ w) C (Cxt.l _ Cxt.id) 0 (c_J4_charAt_5068e hl hS (by omega)) ym_J4_charAt_5068e ml_L_308 rfl rfl rfl rfl dL_isText_17 (by first | omega | exact Nat.le_of_ble_eq_true rfl) (by first | omega | exact Nat.le_of_ble_eq_true rfl) (by first | omega | exact Nat.le_of_ble_eq_true rfl) (Nat.le_of_ble_eq_true rfl) (fun _ _ hu => hu.elim) (fun r u hu => ?_)
      obtain ⟨rfl, rfl⟩ := hu
      refine v_icmp_eq C 25 dL_isText_20 (by decide) (fun c20 => ?_) (fun c20 => ?_)
      · first | refine v_iinc1 C (lo2 := [some _, some _, some _]) dL_isText_25 rfl rfl rfl ?_ | refine v_iinc C (lo2 := [some _, some _, some _]) dL_isText_25 rfl rfl rfl rfl ?_
        refine v_goto C 2 dL_isText_28 (by decide) ?_
        refine V.wid (k2 := 6 * (j + 1)) (n2 := 36 * (j + 1)) (by omega) (by omega) ?_
        exact ih2 (j + 1) (by show T.length - (j + 1) < T.length - j; omega) (by show j + 1 ≤ T.length; omega)
      · exact absurd rfl c20
  refine V.wid (k2 := 6 * 0) (n2 := 36 * 0) (by omega) (by omega) ?_
  exact L2 0 (Nat.zero_le _)
