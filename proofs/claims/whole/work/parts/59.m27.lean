theorem TD_t {w : Cond} (i : Nat) (h : tables_1[i]? = some w) (hg : isD w = true) : w ∈ TD := List.mem_filter.mpr ⟨List.mem_append_right _ (List.mem_of_getElem? h), hg⟩
theorem cl_L_13 : Cond.classLink RL 13 EIO ∈ TT := TT_t 256 (by decide +kernel) (by decide +kernel)
theorem cl_L_15 : Cond.classLink RL 15 EIA ∈ TT := TT_t 257 (by decide +kernel) (by decide +kernel)
theorem ca_EIO : Cond.castable EIO EIO ∈ TD := TD_t 264 (by decide +kernel) rfl
theorem ca_EIA : Cond.castable EIA EIA ∈ TD := TD_t 572 (by decide +kernel) rfl
theorem cl_L_20 : Cond.classLink RL 20 EIS ∈ TT := TT_t 601 (by decide +kernel) (by decide +kernel)
theorem ca_EIS : Cond.castable EIS EIS ∈ TD := TD_t 612 (by decide +kernel) rfl
def HPo {ρ : Type} (post : ρ → Cg → Prop) (px : String → Cg → Prop) (EL : List String) (good : ρ → Cg → Lg) (bad : Cg → Lg) : Int32 → Lg → Prop := fun r u => (∃ v c2, post v c2 ∧ r = nI 0 ∧ u = good v c2) ∨ (∃ e c2 i, px e c2 ∧ EL[i]? = some e ∧ r = nI (i + 1) ∧ u = bad c2)
def cvI (r : Int32) : Int64 := r.toInt64
def cvZ (r : Int32) : Int64 := if r = 0 then 0 else 1
theorem ysh_L_load : YsH yL_load cL_load 4 (some .int) [(0, 9, 12, 13), (0, 9, 15, 15)] 3 := ⟨⟨TT_t 254 (by decide +kernel) (by decide +kernel), TT_t 0 (by decide +kernel) (by decide +kernel), TT_t 255 (by decide +kernel) (by decide +kernel)⟩, by decide +kernel, by decide +kernel, by decide +kernel, by decide⟩
set_option maxHeartbeats 1000000 in
theorem hc_load {l : Launch} (hl : l.stackTraces = false) {κ : Kp} {h : Nat → Nat} {c : Cg} {o : Nat → Int64} {dd : Nat → UInt64} {q : G} {p1 : Int32} {dM mc ms : Nat} (hd : dM < 20) (hm : mc ≤ 6) (hs : ms ≤ 36) {post : Int32 → Cg → Prop} {px : String → Cg → Prop} (M : Ct SS MM l κ yX5_load cX5_load 3 (some FieldType.int) dM mc ms [.ref (h 0), .int p1] (cS κ h) c ri post px) (hE : ∀ e u, px e u → e ∈ ([EIO, EIA] : List String)) : CtH SS MM l κ yL_load cL_load 4 (some .int) [(0, 9, 12, 13), (0, 9, 15, 15)] 20 6 36 [.ref (h 0), .int p1, .ref (h 124)] (lS κ h) (c, o, dd, q) ri (HPo post px [EIO, EIA] (fun v c2 => (c2, vp_updL o 0 (cvI v), dd, q)) (fun c2 => (c2, o, dd, q))) (fun _ _ => False) := by
  refine CtH.of (own := RL) (by decide +kernel) rfl hl (by simp [Value.category]) (Nat.le_of_ble_eq_true rfl) (fun X hXl hXK C F T => ?_)
  subst hXK
  subst hXl
  refine v_aload_n C dL_load_0 rfl ?_
  refine v_iconst C dL_load_1 (v := nI 0) (by decide) ?_
  refine v_aload_n C dL_load_2 rfl ?_
  refine v_iload_n C dL_load_3 rfl ?_
  refine v_callVi C M ym_X5_load ml_L_7 emb_l_c rfl rfl rfl rfl rfl dL_load_4 hd (by omega) (by omega) (Nat.le_of_ble_eq_true rfl) (fun e u hp => ?_) (fun r u hp => ?_)
  · have hz := hE e u hp
    rcases List.mem_cons.mp hz with rfl | hz
    · refine v_catch C T [] 0 9 12 13 [(0, 9, 15, 15)] rfl (fun z hz => by cases hz) ⟨by decide, by decide⟩ (by decide) cl_L_13 ca_EIO (fun q2 => ?_)
      refine v_astore_n C dL_load_12 rfl (Nat.le_of_ble_eq_true rfl) rfl ?_
      refine v_iconst C dL_load_13 (v := nI 1) (by decide) ?_
      exact v_iret C F rfl dL_load_14 (by omega) (by omega) (Or.inr ⟨_, u, 0, hp, rfl, rfl, rfl⟩)
    obtain rfl := List.mem_singleton.mp hz
    refine v_catch C T [(0, 9, 12, 13)] 0 9 15 15 [] rfl (fun z hz => by obtain rfl := List.mem_singleton.mp hz; exact ⟨by decide, EIO, cl_L_13, List.mem_of_getElem? (i := 2) rfl⟩) ⟨by decide, by decide⟩ (by decide) cl_L_15 ca_EIA (fun q2 => ?_)
    refine v_astore_n C dL_load_15 rfl (Nat.le_of_ble_eq_true rfl) rfl ?_
    refine v_iconst C dL_load_16 (v := nI 2) (by decide) ?_
    exact v_iret C F rfl dL_load_17 (by omega) (by omega) (Or.inr ⟨_, u, 1, hp, rfl, rfl, rfl⟩)
  · skip
    refine v_i2l C dL_load_7 rfl ?_
    refine v_last C aj_l (by decide) 0 (by decide) rfl dL_load_8 ?_
    refine v_goto C 18 dL_load_9 (by decide) ?_
    refine v_iconst C dL_load_18 (v := nI 0) (by decide) ?_
    exact v_iret C F rfl dL_load_19 (by omega) (by omega) (Or.inl ⟨r, u, hp, rfl, rfl⟩)
theorem ysh_L_setting : YsH yL_setting cL_setting 4 (some .int) [(0, 9, 12, 20), (0, 9, 15, 15)] 3 := ⟨⟨TT_t 599 (by decide +kernel) (by decide +kernel), TT_t 0 (by decide +kernel) (by decide +kernel), TT_t 600 (by decide +kernel) (by decide +kernel)⟩, by decide +kernel, by decide +kernel, by decide +kernel, by decide⟩
set_option maxHeartbeats 1000000 in
theorem hc_setting {l : Launch} (hl : l.stackTraces = false) {κ : Kp} {h : Nat → Nat} {c : Cg} {o : Nat → Int64} {dd : Nat → UInt64} {q : G} {p1 : Int32} {dM mc ms : Nat} (hd : dM < 20) (hm : mc ≤ 6) (hs : ms ≤ 36) {post : Int32 → Cg → Prop} {px : String → Cg → Prop} (M : Ct SS MM l κ yX5_setting cX5_setting 2 (some FieldType.int) dM mc ms [.ref (h 0), .int p1] (cS κ h) c ri post px) (hE : ∀ e u, px e u → e ∈ ([EIS, EIA] : List String)) : CtH SS MM l κ yL_setting cL_setting 4 (some .int) [(0, 9, 12, 20), (0, 9, 15, 15)] 20 6 36 [.ref (h 0), .int p1, .ref (h 124)] (lS κ h) (c, o, dd, q) ri (HPo post px [EIS, EIA] (fun v c2 => (c2, vp_updL o 0 (cvI v), dd, q)) (fun c2 => (c2, o, dd, q))) (fun _ _ => False) := by
  refine CtH.of (own := RL) (by decide +kernel) rfl hl (by simp [Value.category]) (Nat.le_of_ble_eq_true rfl) (fun X hXl hXK C F T => ?_)
  subst hXK
  subst hXl
  refine v_aload_n C dL_setting_0 rfl ?_
  refine v_iconst C dL_setting_1 (v := nI 0) (by decide) ?_
  refine v_aload_n C dL_setting_2 rfl ?_
  refine v_iload_n C dL_setting_3 rfl ?_
  refine v_callVi C M ym_X5_setting ml_L_17 emb_l_c rfl rfl rfl rfl rfl dL_setting_4 hd (by omega) (by omega) (Nat.le_of_ble_eq_true rfl) (fun e u hp => ?_) (fun r u hp => ?_)
  · have hz := hE e u hp
    rcases List.mem_cons.mp hz with rfl | hz
    · refine v_catch C T [] 0 9 12 20 [(0, 9, 15, 15)] rfl (fun z hz => by cases hz) ⟨by decide, by decide⟩ (by decide) cl_L_20 ca_EIS (fun q2 => ?_)
      refine v_astore_n C dL_setting_12 rfl (Nat.le_of_ble_eq_true rfl) rfl ?_
      refine v_iconst C dL_setting_13 (v := nI 1) (by decide) ?_
      exact v_iret C F rfl dL_setting_14 (by omega) (by omega) (Or.inr ⟨_, u, 0, hp, rfl, rfl, rfl⟩)
    obtain rfl := List.mem_singleton.mp hz
    refine v_catch C T [(0, 9, 12, 20)] 0 9 15 15 [] rfl (fun z hz => by obtain rfl := List.mem_singleton.mp hz; exact ⟨by decide, EIS, cl_L_20, List.mem_of_getElem? (i := 3) rfl⟩) ⟨by decide, by decide⟩ (by decide) cl_L_15 ca_EIA (fun q2 => ?_)
    refine v_astore_n C dL_setting_15 rfl (Nat.le_of_ble_eq_true rfl) rfl ?_
    refine v_iconst C dL_setting_16 (v := nI 2) (by decide) ?_
    exact v_iret C F rfl dL_setting_17 (by omega) (by omega) (Or.inr ⟨_, u, 1, hp, rfl, rfl, rfl⟩)
  · skip
    refine v_i2l C dL_setting_7 rfl ?_
    refine v_last C aj_l (by decide) 0 (by decide) rfl dL_setting_8 ?_
    refine v_goto C 18 dL_setting_9 (by decide) ?_
    refine v_iconst C dL_setting_18 (v := nI 0) (by decide) ?_
    exact v_iret C F rfl dL_setting_19 (by omega) (by omega) (Or.inl ⟨r, u, hp, rfl, rfl⟩)
theorem ysh_L_stored : YsH yL_stored cL_stored 4 (some .int) [(0, 9, 12, 20), (0, 9, 15, 13)] 3 := ⟨⟨TT_t 632 (by decide +kernel) (by decide +kernel), TT_t 0 (by decide +kernel) (by decide +kernel), TT_t 633 (by decide +kernel) (by decide +kernel)⟩, by decide +kernel, by decide +kernel, by decide +kernel, by decide⟩
set_option maxHeartbeats 1000000 in
theorem hc_stored {l : Launch} (hl : l.stackTraces = false) {κ : Kp} {h : Nat → Nat} {c : Cg} {o : Nat → Int64} {dd : Nat → UInt64} {q : G} {p1 : Int32} {dM mc ms : Nat} (hd : dM < 20) (hm : mc ≤ 6) (hs : ms ≤ 36) {post : Int32 → Cg → Prop} {px : String → Cg → Prop} (M : Ct SS MM l κ yX5_stored cX5_stored 2 (some FieldType.int) dM mc ms [.ref (h 0), .int p1] (cS κ h) c ri post px) (hE : ∀ e u, px e u → e ∈ ([EIS, EIO] : List String)) : CtH SS MM l κ yL_stored cL_stored 4 (some .int) [(0, 9, 12, 20), (0, 9, 15, 13)] 20 6 36 [.ref (h 0), .int p1, .ref (h 124)] (lS κ h) (c, o, dd, q) ri (HPo post px [EIS, EIO] (fun v c2 => (c2, vp_updL o 0 (cvI v), dd, q)) (fun c2 => (c2, o, dd, q))) (fun _ _ => False) := by
  refine CtH.of (own := RL) (by decide +kernel) rfl hl (by simp [Value.category]) (Nat.le_of_ble_eq_true rfl) (fun X hXl hXK C F T => ?_)
  subst hXK
  subst hXl
  refine v_aload_n C dL_stored_0 rfl ?_
  refine v_iconst C dL_stored_1 (v := nI 0) (by decide) ?_
  refine v_aload_n C dL_stored_2 rfl ?_
  refine v_iload_n C dL_stored_3 rfl ?_
  refine v_callVi C M ym_X5_stored ml_L_22 emb_l_c rfl rfl rfl rfl rfl dL_stored_4 hd (by omega) (by omega) (Nat.le_of_ble_eq_true rfl) (fun e u hp => ?_) (fun r u hp => ?_)
  · have hz := hE e u hp
    rcases List.mem_cons.mp hz with rfl | hz
    · refine v_catch C T [] 0 9 12 20 [(0, 9, 15, 13)] rfl (fun z hz => by cases hz) ⟨by decide, by decide⟩ (by decide) cl_L_20 ca_EIS (fun q2 => ?_)
      refine v_astore_n C dL_stored_12 rfl (Nat.le_of_ble_eq_true rfl) rfl ?_
      refine v_iconst C dL_stored_13 (v := nI 1) (by decide) ?_
      exact v_iret C F rfl dL_stored_14 (by omega) (by omega) (Or.inr ⟨_, u, 0, hp, rfl, rfl, rfl⟩)
    obtain rfl := List.mem_singleton.mp hz
    refine v_catch C T [(0, 9, 12, 20)] 0 9 15 13 [] rfl (fun z hz => by obtain rfl := List.mem_singleton.mp hz; exact ⟨by decide, EIS, cl_L_20, List.mem_of_getElem? (i := 1) rfl⟩) ⟨by decide, by decide⟩ (by decide) cl_L_13 ca_EIO (fun q2 => ?_)
    refine v_astore_n C dL_stored_15 rfl (Nat.le_of_ble_eq_true rfl) rfl ?_
    refine v_iconst C dL_stored_16 (v := nI 2) (by decide) ?_
    exact v_iret C F rfl dL_stored_17 (by omega) (by omega) (Or.inr ⟨_, u, 1, hp, rfl, rfl, rfl⟩)
  · skip
    refine v_i2l C dL_stored_7 rfl ?_
    refine v_last C aj_l (by decide) 0 (by decide) rfl dL_stored_8 ?_
    refine v_goto C 18 dL_stored_9 (by decide) ?_
    refine v_iconst C dL_stored_18 (v := nI 0) (by decide) ?_
    exact v_iret C F rfl dL_stored_19 (by omega) (by omega) (Or.inl ⟨r, u, hp, rfl, rfl⟩)
theorem ysh_L_value : YsH yL_value cL_value 4 (some .int) [(0, 9, 12, 20), (0, 9, 15, 13)] 3 := ⟨⟨TT_t 645 (by decide +kernel) (by decide +kernel), TT_t 0 (by decide +kernel) (by decide +kernel), TT_t 646 (by decide +kernel) (by decide +kernel)⟩, by decide +kernel, by decide +kernel, by decide +kernel, by decide⟩
set_option maxHeartbeats 1000000 in
theorem hc_value {l : Launch} (hl : l.stackTraces = false) {κ : Kp} {h : Nat → Nat} {c : Cg} {o : Nat → Int64} {dd : Nat → UInt64} {q : G} {p1 : Int32} {dM mc ms : Nat} (hd : dM < 20) (hm : mc ≤ 6) (hs : ms ≤ 36) {post : Int32 → Cg → Prop} {px : String → Cg → Prop} (M : Ct SS MM l κ yX5_value cX5_value 2 (some FieldType.int) dM mc ms [.ref (h 0), .int p1] (cS κ h) c ri post px) (hE : ∀ e u, px e u → e ∈ ([EIS, EIO] : List String)) : CtH SS MM l κ yL_value cL_value 4 (some .int) [(0, 9, 12, 20), (0, 9, 15, 13)] 20 6 36 [.ref (h 0), .int p1, .ref (h 124)] (lS κ h) (c, o, dd, q) ri (HPo post px [EIS, EIO] (fun v c2 => (c2, vp_updL o 0 (cvI v), dd, q)) (fun c2 => (c2, o, dd, q))) (fun _ _ => False) := by
  refine CtH.of (own := RL) (by decide +kernel) rfl hl (by simp [Value.category]) (Nat.le_of_ble_eq_true rfl) (fun X hXl hXK C F T => ?_)
  subst hXK
  subst hXl
  refine v_aload_n C dL_value_0 rfl ?_
  refine v_iconst C dL_value_1 (v := nI 0) (by decide) ?_
  refine v_aload_n C dL_value_2 rfl ?_
  refine v_iload_n C dL_value_3 rfl ?_
  refine v_callVi C M ym_X5_value ml_L_25 emb_l_c rfl rfl rfl rfl rfl dL_value_4 hd (by omega) (by omega) (Nat.le_of_ble_eq_true rfl) (fun e u hp => ?_) (fun r u hp => ?_)
  · have hz := hE e u hp
    rcases List.mem_cons.mp hz with rfl | hz
    · refine v_catch C T [] 0 9 12 20 [(0, 9, 15, 13)] rfl (fun z hz => by cases hz) ⟨by decide, by decide⟩ (by decide) cl_L_20 ca_EIS (fun q2 => ?_)
      refine v_astore_n C dL_value_12 rfl (Nat.le_of_ble_eq_true rfl) rfl ?_
      refine v_iconst C dL_value_13 (v := nI 1) (by decide) ?_
      exact v_iret C F rfl dL_value_14 (by omega) (by omega) (Or.inr ⟨_, u, 0, hp, rfl, rfl, rfl⟩)
    obtain rfl := List.mem_singleton.mp hz
    refine v_catch C T [(0, 9, 12, 20)] 0 9 15 13 [] rfl (fun z hz => by obtain rfl := List.mem_singleton.mp hz; exact ⟨by decide, EIS, cl_L_20, List.mem_of_getElem? (i := 1) rfl⟩) ⟨by decide, by decide⟩ (by decide) cl_L_13 ca_EIO (fun q2 => ?_)
    refine v_astore_n C dL_value_15 rfl (Nat.le_of_ble_eq_true rfl) rfl ?_
    refine v_iconst C dL_value_16 (v := nI 2) (by decide) ?_
    exact v_iret C F rfl dL_value_17 (by omega) (by omega) (Or.inr ⟨_, u, 1, hp, rfl, rfl, rfl⟩)
  · skip
    refine v_i2l C dL_value_7 rfl ?_
    refine v_last C aj_l (by decide) 0 (by decide) rfl dL_value_8 ?_
    refine v_goto C 18 dL_value_9 (by decide) ?_
    refine v_iconst C dL_value_18 (v := nI 0) (by decide) ?_
    exact v_iret C F rfl dL_value_19 (by omega) (by omega) (Or.inl ⟨r, u, hp, rfl, rfl⟩)
theorem ysh_L_source : YsH yL_source cL_source 4 (some .int) [(0, 9, 12, 20), (0, 9, 15, 13)] 3 := ⟨⟨TT_t 653 (by decide +kernel) (by decide +kernel), TT_t 0 (by decide +kernel) (by decide +kernel), TT_t 654 (by decide +kernel) (by decide +kernel)⟩, by decide +kernel, by decide +kernel, by decide +kernel, by decide⟩
set_option maxHeartbeats 1000000 in
theorem hc_source {l : Launch} (hl : l.stackTraces = false) {κ : Kp} {h : Nat → Nat} {c : Cg} {o : Nat → Int64} {dd : Nat → UInt64} {q : G} {p1 : Int32} {dM mc ms : Nat} (hd : dM < 20) (hm : mc ≤ 6) (hs : ms ≤ 36) {post : Int32 → Cg → Prop} {px : String → Cg → Prop} (M : Ct SS MM l κ yX5_source cX5_source 2 (some FieldType.int) dM mc ms [.ref (h 0), .int p1] (cS κ h) c ri post px) (hE : ∀ e u, px e u → e ∈ ([EIS, EIO] : List String)) : CtH SS MM l κ yL_source cL_source 4 (some .int) [(0, 9, 12, 20), (0, 9, 15, 13)] 20 6 36 [.ref (h 0), .int p1, .ref (h 124)] (lS κ h) (c, o, dd, q) ri (HPo post px [EIS, EIO] (fun v c2 => (c2, vp_updL o 0 (cvI v), dd, q)) (fun c2 => (c2, o, dd, q))) (fun _ _ => False) := by
  refine CtH.of (own := RL) (by decide +kernel) rfl hl (by simp [Value.category]) (Nat.le_of_ble_eq_true rfl) (fun X hXl hXK C F T => ?_)
  subst hXK
  subst hXl
  refine v_aload_n C dL_source_0 rfl ?_
  refine v_iconst C dL_source_1 (v := nI 0) (by decide) ?_
  refine v_aload_n C dL_source_2 rfl ?_
  refine v_iload_n C dL_source_3 rfl ?_
  refine v_callVi C M ym_X5_source ml_L_28 emb_l_c rfl rfl rfl rfl rfl dL_source_4 hd (by omega) (by omega) (Nat.le_of_ble_eq_true rfl) (fun e u hp => ?_) (fun r u hp => ?_)
  · have hz := hE e u hp
    rcases List.mem_cons.mp hz with rfl | hz
    · refine v_catch C T [] 0 9 12 20 [(0, 9, 15, 13)] rfl (fun z hz => by cases hz) ⟨by decide, by decide⟩ (by decide) cl_L_20 ca_EIS (fun q2 => ?_)
      refine v_astore_n C dL_source_12 rfl (Nat.le_of_ble_eq_true rfl) rfl ?_
      refine v_iconst C dL_source_13 (v := nI 1) (by decide) ?_
      exact v_iret C F rfl dL_source_14 (by omega) (by omega) (Or.inr ⟨_, u, 0, hp, rfl, rfl, rfl⟩)
    obtain rfl := List.mem_singleton.mp hz
    refine v_catch C T [(0, 9, 12, 20)] 0 9 15 13 [] rfl (fun z hz => by obtain rfl := List.mem_singleton.mp hz; exact ⟨by decide, EIS, cl_L_20, List.mem_of_getElem? (i := 1) rfl⟩) ⟨by decide, by decide⟩ (by decide) cl_L_13 ca_EIO (fun q2 => ?_)
    refine v_astore_n C dL_source_15 rfl (Nat.le_of_ble_eq_true rfl) rfl ?_
    refine v_iconst C dL_source_16 (v := nI 2) (by decide) ?_
    exact v_iret C F rfl dL_source_17 (by omega) (by omega) (Or.inr ⟨_, u, 1, hp, rfl, rfl, rfl⟩)
  · skip
    refine v_i2l C dL_source_7 rfl ?_
    refine v_last C aj_l (by decide) 0 (by decide) rfl dL_source_8 ?_
    refine v_goto C 18 dL_source_9 (by decide) ?_
    refine v_iconst C dL_source_18 (v := nI 0) (by decide) ?_
    exact v_iret C F rfl dL_source_19 (by omega) (by omega) (Or.inl ⟨r, u, hp, rfl, rfl⟩)
theorem ysh_L_promise : YsH yL_promise cL_promise 4 (some .int) [(0, 9, 12, 20), (0, 9, 15, 13)] 3 := ⟨⟨TT_t 660 (by decide +kernel) (by decide +kernel), TT_t 0 (by decide +kernel) (by decide +kernel), TT_t 661 (by decide +kernel) (by decide +kernel)⟩, by decide +kernel, by decide +kernel, by decide +kernel, by decide⟩
set_option maxHeartbeats 1000000 in
theorem hc_promise {l : Launch} (hl : l.stackTraces = false) {κ : Kp} {h : Nat → Nat} {c : Cg} {o : Nat → Int64} {dd : Nat → UInt64} {q : G} {p1 : Int32} {dM mc ms : Nat} (hd : dM < 20) (hm : mc ≤ 6) (hs : ms ≤ 36) {post : Int32 → Cg → Prop} {px : String → Cg → Prop} (M : Ct SS MM l κ yX5_promise cX5_promise 2 (some FieldType.int) dM mc ms [.ref (h 0), .int p1] (cS κ h) c ri post px) (hE : ∀ e u, px e u → e ∈ ([EIS, EIO] : List String)) : CtH SS MM l κ yL_promise cL_promise 4 (some .int) [(0, 9, 12, 20), (0, 9, 15, 13)] 20 6 36 [.ref (h 0), .int p1, .ref (h 124)] (lS κ h) (c, o, dd, q) ri (HPo post px [EIS, EIO] (fun v c2 => (c2, vp_updL o 0 (cvI v), dd, q)) (fun c2 => (c2, o, dd, q))) (fun _ _ => False) := by
  refine CtH.of (own := RL) (by decide +kernel) rfl hl (by simp [Value.category]) (Nat.le_of_ble_eq_true rfl) (fun X hXl hXK C F T => ?_)
  subst hXK
  subst hXl
  refine v_aload_n C dL_promise_0 rfl ?_
  refine v_iconst C dL_promise_1 (v := nI 0) (by decide) ?_
  refine v_aload_n C dL_promise_2 rfl ?_
  refine v_iload_n C dL_promise_3 rfl ?_
  refine v_callVi C M ym_X5_promise ml_L_31 emb_l_c rfl rfl rfl rfl rfl dL_promise_4 hd (by omega) (by omega) (Nat.le_of_ble_eq_true rfl) (fun e u hp => ?_) (fun r u hp => ?_)
  · have hz := hE e u hp
    rcases List.mem_cons.mp hz with rfl | hz
    · refine v_catch C T [] 0 9 12 20 [(0, 9, 15, 13)] rfl (fun z hz => by cases hz) ⟨by decide, by decide⟩ (by decide) cl_L_20 ca_EIS (fun q2 => ?_)
      refine v_astore_n C dL_promise_12 rfl (Nat.le_of_ble_eq_true rfl) rfl ?_
      refine v_iconst C dL_promise_13 (v := nI 1) (by decide) ?_
      exact v_iret C F rfl dL_promise_14 (by omega) (by omega) (Or.inr ⟨_, u, 0, hp, rfl, rfl, rfl⟩)
    obtain rfl := List.mem_singleton.mp hz
    refine v_catch C T [(0, 9, 12, 20)] 0 9 15 13 [] rfl (fun z hz => by obtain rfl := List.mem_singleton.mp hz; exact ⟨by decide, EIS, cl_L_20, List.mem_of_getElem? (i := 1) rfl⟩) ⟨by decide, by decide⟩ (by decide) cl_L_13 ca_EIO (fun q2 => ?_)
    refine v_astore_n C dL_promise_15 rfl (Nat.le_of_ble_eq_true rfl) rfl ?_
    refine v_iconst C dL_promise_16 (v := nI 2) (by decide) ?_
    exact v_iret C F rfl dL_promise_17 (by omega) (by omega) (Or.inr ⟨_, u, 1, hp, rfl, rfl, rfl⟩)
  · skip
    refine v_i2l C dL_promise_7 rfl ?_
    refine v_last C aj_l (by decide) 0 (by decide) rfl dL_promise_8 ?_
    refine v_goto C 18 dL_promise_9 (by decide) ?_
    refine v_iconst C dL_promise_18 (v := nI 0) (by decide) ?_
    exact v_iret C F rfl dL_promise_19 (by omega) (by omega) (Or.inl ⟨r, u, hp, rfl, rfl⟩)
theorem ysh_L_hops : YsH yL_hops cL_hops 4 (some .int) [(0, 9, 12, 20), (0, 9, 15, 13)] 3 := ⟨⟨TT_t 667 (by decide +kernel) (by decide +kernel), TT_t 0 (by decide +kernel) (by decide +kernel), TT_t 668 (by decide +kernel) (by decide +kernel)⟩, by decide +kernel, by decide +kernel, by decide +kernel, by decide⟩
set_option maxHeartbeats 1000000 in
theorem hc_hops {l : Launch} (hl : l.stackTraces = false) {κ : Kp} {h : Nat → Nat} {c : Cg} {o : Nat → Int64} {dd : Nat → UInt64} {q : G} {p1 : Int32} {dM mc ms : Nat} (hd : dM < 20) (hm : mc ≤ 6) (hs : ms ≤ 36) {post : Int32 → Cg → Prop} {px : String → Cg → Prop} (M : Ct SS MM l κ yX5_hops cX5_hops 2 (some FieldType.int) dM mc ms [.ref (h 0), .int p1] (cS κ h) c ri post px) (hE : ∀ e u, px e u → e ∈ ([EIS, EIO] : List String)) : CtH SS MM l κ yL_hops cL_hops 4 (some .int) [(0, 9, 12, 20), (0, 9, 15, 13)] 20 6 36 [.ref (h 0), .int p1, .ref (h 124)] (lS κ h) (c, o, dd, q) ri (HPo post px [EIS, EIO] (fun v c2 => (c2, vp_updL o 0 (cvI v), dd, q)) (fun c2 => (c2, o, dd, q))) (fun _ _ => False) := by
  refine CtH.of (own := RL) (by decide +kernel) rfl hl (by simp [Value.category]) (Nat.le_of_ble_eq_true rfl) (fun X hXl hXK C F T => ?_)
  subst hXK
  subst hXl
  refine v_aload_n C dL_hops_0 rfl ?_
  refine v_iconst C dL_hops_1 (v := nI 0) (by decide) ?_
  refine v_aload_n C dL_hops_2 rfl ?_
  refine v_iload_n C dL_hops_3 rfl ?_
  refine v_callVi C M ym_X5_hops ml_L_34 emb_l_c rfl rfl rfl rfl rfl dL_hops_4 hd (by omega) (by omega) (Nat.le_of_ble_eq_true rfl) (fun e u hp => ?_) (fun r u hp => ?_)
  · have hz := hE e u hp
    rcases List.mem_cons.mp hz with rfl | hz
    · refine v_catch C T [] 0 9 12 20 [(0, 9, 15, 13)] rfl (fun z hz => by cases hz) ⟨by decide, by decide⟩ (by decide) cl_L_20 ca_EIS (fun q2 => ?_)
      refine v_astore_n C dL_hops_12 rfl (Nat.le_of_ble_eq_true rfl) rfl ?_
      refine v_iconst C dL_hops_13 (v := nI 1) (by decide) ?_
      exact v_iret C F rfl dL_hops_14 (by omega) (by omega) (Or.inr ⟨_, u, 0, hp, rfl, rfl, rfl⟩)
    obtain rfl := List.mem_singleton.mp hz
    refine v_catch C T [(0, 9, 12, 20)] 0 9 15 13 [] rfl (fun z hz => by obtain rfl := List.mem_singleton.mp hz; exact ⟨by decide, EIS, cl_L_20, List.mem_of_getElem? (i := 1) rfl⟩) ⟨by decide, by decide⟩ (by decide) cl_L_13 ca_EIO (fun q2 => ?_)
    refine v_astore_n C dL_hops_15 rfl (Nat.le_of_ble_eq_true rfl) rfl ?_
    refine v_iconst C dL_hops_16 (v := nI 2) (by decide) ?_
    exact v_iret C F rfl dL_hops_17 (by omega) (by omega) (Or.inr ⟨_, u, 1, hp, rfl, rfl, rfl⟩)
  · skip
    refine v_i2l C dL_hops_7 rfl ?_
    refine v_last C aj_l (by decide) 0 (by decide) rfl dL_hops_8 ?_
    refine v_goto C 18 dL_hops_9 (by decide) ?_
    refine v_iconst C dL_hops_18 (v := nI 0) (by decide) ?_
    exact v_iret C F rfl dL_hops_19 (by omega) (by omega) (Or.inl ⟨r, u, hp, rfl, rfl⟩)
theorem ysh_L_root : YsH yL_root cL_root 4 (some .int) [(0, 9, 12, 20), (0, 9, 15, 13)] 3 := ⟨⟨TT_t 683 (by decide +kernel) (by decide +kernel), TT_t 0 (by decide +kernel) (by decide +kernel), TT_t 684 (by decide +kernel) (by decide +kernel)⟩, by decide +kernel, by decide +kernel, by decide +kernel, by decide⟩
set_option maxHeartbeats 1000000 in
theorem hc_root {l : Launch} (hl : l.stackTraces = false) {κ : Kp} {h : Nat → Nat} {c : Cg} {o : Nat → Int64} {dd : Nat → UInt64} {q : G} {p1 : Int32} {dM mc ms : Nat} (hd : dM < 20) (hm : mc ≤ 6) (hs : ms ≤ 36) {post : Int32 → Cg → Prop} {px : String → Cg → Prop} (M : Ct SS MM l κ yX5_root cX5_root 2 (some FieldType.int) dM mc ms [.ref (h 0), .int p1] (cS κ h) c ri post px) (hE : ∀ e u, px e u → e ∈ ([EIS, EIO] : List String)) : CtH SS MM l κ yL_root cL_root 4 (some .int) [(0, 9, 12, 20), (0, 9, 15, 13)] 20 6 36 [.ref (h 0), .int p1, .ref (h 124)] (lS κ h) (c, o, dd, q) ri (HPo post px [EIS, EIO] (fun v c2 => (c2, vp_updL o 0 (cvI v), dd, q)) (fun c2 => (c2, o, dd, q))) (fun _ _ => False) := by
  refine CtH.of (own := RL) (by decide +kernel) rfl hl (by simp [Value.category]) (Nat.le_of_ble_eq_true rfl) (fun X hXl hXK C F T => ?_)
  subst hXK
  subst hXl
  refine v_aload_n C dL_root_0 rfl ?_
  refine v_iconst C dL_root_1 (v := nI 0) (by decide) ?_
  refine v_aload_n C dL_root_2 rfl ?_
  refine v_iload_n C dL_root_3 rfl ?_
  refine v_callVi C M ym_X5_root ml_L_37 emb_l_c rfl rfl rfl rfl rfl dL_root_4 hd (by omega) (by omega) (Nat.le_of_ble_eq_true rfl) (fun e u hp => ?_) (fun r u hp => ?_)
  · have hz := hE e u hp
    rcases List.mem_cons.mp hz with rfl | hz
    · refine v_catch C T [] 0 9 12 20 [(0, 9, 15, 13)] rfl (fun z hz => by cases hz) ⟨by decide, by decide⟩ (by decide) cl_L_20 ca_EIS (fun q2 => ?_)
      refine v_astore_n C dL_root_12 rfl (Nat.le_of_ble_eq_true rfl) rfl ?_
      refine v_iconst C dL_root_13 (v := nI 1) (by decide) ?_
      exact v_iret C F rfl dL_root_14 (by omega) (by omega) (Or.inr ⟨_, u, 0, hp, rfl, rfl, rfl⟩)
    obtain rfl := List.mem_singleton.mp hz
    refine v_catch C T [(0, 9, 12, 20)] 0 9 15 13 [] rfl (fun z hz => by obtain rfl := List.mem_singleton.mp hz; exact ⟨by decide, EIS, cl_L_20, List.mem_of_getElem? (i := 1) rfl⟩) ⟨by decide, by decide⟩ (by decide) cl_L_13 ca_EIO (fun q2 => ?_)
    refine v_astore_n C dL_root_15 rfl (Nat.le_of_ble_eq_true rfl) rfl ?_
    refine v_iconst C dL_root_16 (v := nI 2) (by decide) ?_
    exact v_iret C F rfl dL_root_17 (by omega) (by omega) (Or.inr ⟨_, u, 1, hp, rfl, rfl, rfl⟩)
  · skip
    refine v_i2l C dL_root_7 rfl ?_
    refine v_last C aj_l (by decide) 0 (by decide) rfl dL_root_8 ?_
    refine v_goto C 18 dL_root_9 (by decide) ?_
    refine v_iconst C dL_root_18 (v := nI 0) (by decide) ?_
    exact v_iret C F rfl dL_root_19 (by omega) (by omega) (Or.inl ⟨r, u, hp, rfl, rfl⟩)
theorem ysh_L_isLocked : YsH yL_isLocked cL_isLocked 4 (some .int) [(0, 16, 19, 20), (0, 16, 22, 13)] 3 := ⟨⟨TT_t 691 (by decide +kernel) (by decide +kernel), TT_t 0 (by decide +kernel) (by decide +kernel), TT_t 692 (by decide +kernel) (by decide +kernel)⟩, by decide +kernel, by decide +kernel, by decide +kernel, by decide⟩
set_option maxHeartbeats 1000000 in
theorem hc_isLocked {l : Launch} (hl : l.stackTraces = false) {κ : Kp} {h : Nat → Nat} {c : Cg} {o : Nat → Int64} {dd : Nat → UInt64} {q : G} {p1 : Int32} {dM mc ms : Nat} (hd : dM < 20) (hm : mc ≤ 6) (hs : ms ≤ 36) {post : Int32 → Cg → Prop} {px : String → Cg → Prop} (M : Ct SS MM l κ yX5_isLocked cX5_isLocked 2 (some FieldType.boolean) dM mc ms [.ref (h 0), .int p1] (cS κ h) c ri post px) (hE : ∀ e u, px e u → e ∈ ([EIS, EIO] : List String)) : CtH SS MM l κ yL_isLocked cL_isLocked 4 (some .int) [(0, 16, 19, 20), (0, 16, 22, 13)] 20 6 36 [.ref (h 0), .int p1, .ref (h 124)] (lS κ h) (c, o, dd, q) ri (HPo post px [EIS, EIO] (fun v c2 => (c2, vp_updL o 0 (cvZ v), dd, q)) (fun c2 => (c2, o, dd, q))) (fun _ _ => False) := by
  refine CtH.of (own := RL) (by decide +kernel) rfl hl (by simp [Value.category]) (Nat.le_of_ble_eq_true rfl) (fun X hXl hXK C F T => ?_)
  subst hXK
  subst hXl
  refine v_aload_n C dL_isLocked_0 rfl ?_
  refine v_iconst C dL_isLocked_1 (v := nI 0) (by decide) ?_
  refine v_aload_n C dL_isLocked_2 rfl ?_
  refine v_iload_n C dL_isLocked_3 rfl ?_
  refine v_callVi C M ym_X5_isLocked ml_L_40 emb_l_c rfl rfl rfl rfl rfl dL_isLocked_4 hd (by omega) (by omega) (Nat.le_of_ble_eq_true rfl) (fun e u hp => ?_) (fun r u hp => ?_)
  · have hz := hE e u hp
    rcases List.mem_cons.mp hz with rfl | hz
    · refine v_catch C T [] 0 16 19 20 [(0, 16, 22, 13)] rfl (fun z hz => by cases hz) ⟨by decide, by decide⟩ (by decide) cl_L_20 ca_EIS (fun q2 => ?_)
      refine v_astore_n C dL_isLocked_19 rfl (Nat.le_of_ble_eq_true rfl) rfl ?_
      refine v_iconst C dL_isLocked_20 (v := nI 1) (by decide) ?_
      exact v_iret C F rfl dL_isLocked_21 (by omega) (by omega) (Or.inr ⟨_, u, 0, hp, rfl, rfl, rfl⟩)
    obtain rfl := List.mem_singleton.mp hz
    refine v_catch C T [(0, 16, 19, 20)] 0 16 22 13 [] rfl (fun z hz => by obtain rfl := List.mem_singleton.mp hz; exact ⟨by decide, EIS, cl_L_20, List.mem_of_getElem? (i := 1) rfl⟩) ⟨by decide, by decide⟩ (by decide) cl_L_13 ca_EIO (fun q2 => ?_)
    refine v_astore_n C dL_isLocked_22 rfl (Nat.le_of_ble_eq_true rfl) rfl ?_
    refine v_iconst C dL_isLocked_23 (v := nI 2) (by decide) ?_
    exact v_iret C F rfl dL_isLocked_24 (by omega) (by omega) (Or.inr ⟨_, u, 1, hp, rfl, rfl, rfl⟩)
  · skip
    refine v_if_eq C 14 dL_isLocked_7 (by decide) (fun hz => ?_) (fun hz => ?_)
    · skip
      refine v_lconst C dL_isLocked_14 (v := 0) (by decide) ?_
      refine v_last C aj_l (by decide) 0 (by decide) rfl dL_isLocked_15 ?_
      refine v_goto C 25 dL_isLocked_16 (by decide) ?_
      refine v_iconst C dL_isLocked_25 (v := nI 0) (by decide) ?_
      exact v_iret C F rfl dL_isLocked_26 (by omega) (by omega) (Or.inl ⟨r, u, hp, rfl, by show (u, vp_updL o 0 0, dd, q) = (u, vp_updL o 0 (cvZ r), dd, q); rw [show cvZ r = 0 from if_pos hz]⟩)
    · skip
      refine v_lconst C dL_isLocked_10 (v := 1) (by decide) ?_
      refine v_goto C 15 dL_isLocked_11 (by decide) ?_
      refine v_last C aj_l (by decide) 0 (by decide) rfl dL_isLocked_15 ?_
      refine v_goto C 25 dL_isLocked_16 (by decide) ?_
      refine v_iconst C dL_isLocked_25 (v := nI 0) (by decide) ?_
      exact v_iret C F rfl dL_isLocked_26 (by omega) (by omega) (Or.inl ⟨r, u, hp, rfl, by show (u, vp_updL o 0 1, dd, q) = (u, vp_updL o 0 (cvZ r), dd, q); rw [show cvZ r = 1 from if_neg hz]⟩)
theorem ysh_L_dependents : YsH yL_dependents cL_dependents 5 (some .int) [(0, 10, 13, 20), (0, 10, 17, 13)] 4 := ⟨⟨TT_t 698 (by decide +kernel) (by decide +kernel), TT_t 0 (by decide +kernel) (by decide +kernel), TT_t 699 (by decide +kernel) (by decide +kernel)⟩, by decide +kernel, by decide +kernel, by decide +kernel, by decide⟩
set_option maxHeartbeats 1000000 in
theorem hc_dependents {l : Launch} (hl : l.stackTraces = false) {κ : Kp} {h : Nat → Nat} {c : Cg} {o : Nat → Int64} {dd : Nat → UInt64} {q : G} {p1 p2 : Int32} {dM mc ms : Nat} (hd : dM < 20) (hm : mc ≤ 6) (hs : ms ≤ 36) {post : Int32 → Cg → Prop} {px : String → Cg → Prop} (M : Ct SS MM l κ yX5_dependents cX5_dependents 7 (some FieldType.int) dM mc ms [.ref (h 0), .int p1, .int p2] (cS κ h) c ri post px) (hE : ∀ e u, px e u → e ∈ ([EIS, EIO] : List String)) : CtH SS MM l κ yL_dependents cL_dependents 5 (some .int) [(0, 10, 13, 20), (0, 10, 17, 13)] 20 6 36 [.ref (h 0), .int p1, .int p2, .ref (h 124)] (lS κ h) (c, o, dd, q) ri (HPo post px [EIS, EIO] (fun v c2 => (c2, vp_updL o 0 (cvI v), dd, q)) (fun c2 => (c2, o, dd, q))) (fun _ _ => False) := by
  refine CtH.of (own := RL) (by decide +kernel) rfl hl (by simp [Value.category]) (Nat.le_of_ble_eq_true rfl) (fun X hXl hXK C F T => ?_)
  subst hXK
  subst hXl
  refine v_aload_n C dL_dependents_0 rfl ?_
  refine v_iconst C dL_dependents_1 (v := nI 0) (by decide) ?_
  refine v_aload_n C dL_dependents_2 rfl ?_
  refine v_iload_n C dL_dependents_3 rfl ?_
  refine v_iload_n C dL_dependents_4 rfl ?_
  refine v_callVi C M ym_X5_dependents ml_L_44 emb_l_c rfl rfl rfl rfl rfl dL_dependents_5 hd (by omega) (by omega) (Nat.le_of_ble_eq_true rfl) (fun e u hp => ?_) (fun r u hp => ?_)
  · have hz := hE e u hp
    rcases List.mem_cons.mp hz with rfl | hz
    · refine v_catch C T [] 0 10 13 20 [(0, 10, 17, 13)] rfl (fun z hz => by cases hz) ⟨by decide, by decide⟩ (by decide) cl_L_20 ca_EIS (fun q2 => ?_)
      refine v_astore C dL_dependents_13 rfl (Nat.le_of_ble_eq_true rfl) rfl ?_
      refine v_iconst C dL_dependents_15 (v := nI 1) (by decide) ?_
      exact v_iret C F rfl dL_dependents_16 (by omega) (by omega) (Or.inr ⟨_, u, 0, hp, rfl, rfl, rfl⟩)
    obtain rfl := List.mem_singleton.mp hz
    refine v_catch C T [(0, 10, 13, 20)] 0 10 17 13 [] rfl (fun z hz => by obtain rfl := List.mem_singleton.mp hz; exact ⟨by decide, EIS, cl_L_20, List.mem_of_getElem? (i := 1) rfl⟩) ⟨by decide, by decide⟩ (by decide) cl_L_13 ca_EIO (fun q2 => ?_)
    refine v_astore C dL_dependents_17 rfl (Nat.le_of_ble_eq_true rfl) rfl ?_
    refine v_iconst C dL_dependents_19 (v := nI 2) (by decide) ?_
    exact v_iret C F rfl dL_dependents_20 (by omega) (by omega) (Or.inr ⟨_, u, 1, hp, rfl, rfl, rfl⟩)
  · skip
    refine v_i2l C dL_dependents_8 rfl ?_
    refine v_last C aj_l (by decide) 0 (by decide) rfl dL_dependents_9 ?_
    refine v_goto C 21 dL_dependents_10 (by decide) ?_
    refine v_iconst C dL_dependents_21 (v := nI 0) (by decide) ?_
    exact v_iret C F rfl dL_dependents_22 (by omega) (by omega) (Or.inl ⟨r, u, hp, rfl, rfl⟩)
theorem ysh_L_owed : YsH yL_owed cL_owed 3 (some .int) [(0, 8, 11, 20)] 2 := ⟨⟨TT_t 706 (by decide +kernel) (by decide +kernel), TT_t 0 (by decide +kernel) (by decide +kernel), TT_t 707 (by decide +kernel) (by decide +kernel)⟩, by decide +kernel, by decide +kernel, by decide +kernel, by decide⟩
set_option maxHeartbeats 1000000 in
theorem hc_owed {l : Launch} (hl : l.stackTraces = false) {κ : Kp} {h : Nat → Nat} {c : Cg} {o : Nat → Int64} {dd : Nat → UInt64} {q : G} {dM mc ms : Nat} (hd : dM < 20) (hm : mc ≤ 6) (hs : ms ≤ 36) {post : Int32 → Cg → Prop} {px : String → Cg → Prop} (M : Ct SS MM l κ yX5_owed cX5_owed 1 (some FieldType.int) dM mc ms [.ref (h 0)] (cS κ h) c ri post px) (hE : ∀ e u, px e u → e ∈ ([EIS] : List String)) : CtH SS MM l κ yL_owed cL_owed 3 (some .int) [(0, 8, 11, 20)] 20 6 36 [.ref (h 0), .ref (h 124)] (lS κ h) (c, o, dd, q) ri (HPo post px [EIS] (fun v c2 => (c2, vp_updL o 0 (cvI v), dd, q)) (fun c2 => (c2, o, dd, q))) (fun _ _ => False) := by
  refine CtH.of (own := RL) (by decide +kernel) rfl hl (by simp [Value.category]) (Nat.le_of_ble_eq_true rfl) (fun X hXl hXK C F T => ?_)
  subst hXK
  subst hXl
  refine v_aload_n C dL_owed_0 rfl ?_
  refine v_iconst C dL_owed_1 (v := nI 0) (by decide) ?_
  refine v_aload_n C dL_owed_2 rfl ?_
  refine v_callVi C M ym_X5_owed ml_L_48 emb_l_c rfl rfl rfl rfl rfl dL_owed_3 hd (by omega) (by omega) (Nat.le_of_ble_eq_true rfl) (fun e u hp => ?_) (fun r u hp => ?_)
  · have hz := hE e u hp
    obtain rfl := List.mem_singleton.mp hz
    refine v_catch C T [] 0 8 11 20 [] rfl (fun z hz => by cases hz) ⟨by decide, by decide⟩ (by decide) cl_L_20 ca_EIS (fun q2 => ?_)
    refine v_astore_n C dL_owed_11 rfl (Nat.le_of_ble_eq_true rfl) rfl ?_
    refine v_iconst C dL_owed_12 (v := nI 1) (by decide) ?_
    exact v_iret C F rfl dL_owed_13 (by omega) (by omega) (Or.inr ⟨_, u, 0, hp, rfl, rfl, rfl⟩)
  · skip
    refine v_i2l C dL_owed_6 rfl ?_
    refine v_last C aj_l (by decide) 0 (by decide) rfl dL_owed_7 ?_
    refine v_goto C 14 dL_owed_8 (by decide) ?_
    refine v_iconst C dL_owed_14 (v := nI 0) (by decide) ?_
    exact v_iret C F rfl dL_owed_15 (by omega) (by omega) (Or.inl ⟨r, u, hp, rfl, rfl⟩)
theorem ysh_L_owedIn : YsH yL_owedIn cL_owedIn 5 (some .int) [(0, 10, 13, 20), (0, 10, 17, 13), (0, 10, 21, 15)] 4 := ⟨⟨TT_t 714 (by decide +kernel) (by decide +kernel), TT_t 0 (by decide +kernel) (by decide +kernel), TT_t 715 (by decide +kernel) (by decide +kernel)⟩, by decide +kernel, by decide +kernel, by decide +kernel, by decide⟩
set_option maxHeartbeats 1000000 in
theorem hc_owedIn {l : Launch} (hl : l.stackTraces = false) {κ : Kp} {h : Nat → Nat} {c : Cg} {o : Nat → Int64} {dd : Nat → UInt64} {q : G} {p1 p2 : Int32} {dM mc ms : Nat} (hd : dM < 20) (hm : mc ≤ 6) (hs : ms ≤ 36) {post : Int32 → Cg → Prop} {px : String → Cg → Prop} (M : Ct SS MM l κ yX5_owedIn cX5_owedIn 3 (some FieldType.int) dM mc ms [.ref (h 0), .int p1, .int p2] (cS κ h) c ri post px) (hE : ∀ e u, px e u → e ∈ ([EIS, EIO, EIA] : List String)) : CtH SS MM l κ yL_owedIn cL_owedIn 5 (some .int) [(0, 10, 13, 20), (0, 10, 17, 13), (0, 10, 21, 15)] 20 6 36 [.ref (h 0), .int p1, .int p2, .ref (h 124)] (lS κ h) (c, o, dd, q) ri (HPo post px [EIS, EIO, EIA] (fun v c2 => (c2, vp_updL o 0 (cvI v), dd, q)) (fun c2 => (c2, o, dd, q))) (fun _ _ => False) := by
  refine CtH.of (own := RL) (by decide +kernel) rfl hl (by simp [Value.category]) (Nat.le_of_ble_eq_true rfl) (fun X hXl hXK C F T => ?_)
  subst hXK
  subst hXl
  refine v_aload_n C dL_owedIn_0 rfl ?_
  refine v_iconst C dL_owedIn_1 (v := nI 0) (by decide) ?_
  refine v_aload_n C dL_owedIn_2 rfl ?_
  refine v_iload_n C dL_owedIn_3 rfl ?_
  refine v_iload_n C dL_owedIn_4 rfl ?_
  refine v_callVi C M ym_X5_owedIn ml_L_52 emb_l_c rfl rfl rfl rfl rfl dL_owedIn_5 hd (by omega) (by omega) (Nat.le_of_ble_eq_true rfl) (fun e u hp => ?_) (fun r u hp => ?_)
  · have hz := hE e u hp
    rcases List.mem_cons.mp hz with rfl | hz
    · refine v_catch C T [] 0 10 13 20 [(0, 10, 17, 13), (0, 10, 21, 15)] rfl (fun z hz => by cases hz) ⟨by decide, by decide⟩ (by decide) cl_L_20 ca_EIS (fun q2 => ?_)
      refine v_astore C dL_owedIn_13 rfl (Nat.le_of_ble_eq_true rfl) rfl ?_
      refine v_iconst C dL_owedIn_15 (v := nI 1) (by decide) ?_
      exact v_iret C F rfl dL_owedIn_16 (by omega) (by omega) (Or.inr ⟨_, u, 0, hp, rfl, rfl, rfl⟩)
    rcases List.mem_cons.mp hz with rfl | hz
    · refine v_catch C T [(0, 10, 13, 20)] 0 10 17 13 [(0, 10, 21, 15)] rfl (fun z hz => by obtain rfl := List.mem_singleton.mp hz; exact ⟨by decide, EIS, cl_L_20, List.mem_of_getElem? (i := 1) rfl⟩) ⟨by decide, by decide⟩ (by decide) cl_L_13 ca_EIO (fun q2 => ?_)
      refine v_astore C dL_owedIn_17 rfl (Nat.le_of_ble_eq_true rfl) rfl ?_
      refine v_iconst C dL_owedIn_19 (v := nI 2) (by decide) ?_
      exact v_iret C F rfl dL_owedIn_20 (by omega) (by omega) (Or.inr ⟨_, u, 1, hp, rfl, rfl, rfl⟩)
    obtain rfl := List.mem_singleton.mp hz
    refine v_catch C T [(0, 10, 13, 20), (0, 10, 17, 13)] 0 10 21 15 [] rfl (fun z hz => (List.mem_cons.mp hz).elim (fun z1 => by rw [z1]; exact ⟨by decide, EIS, cl_L_20, List.mem_of_getElem? (i := 3) rfl⟩) (fun hz => by obtain rfl := List.mem_singleton.mp hz; exact ⟨by decide, EIO, cl_L_13, List.mem_of_getElem? (i := 2) rfl⟩)) ⟨by decide, by decide⟩ (by decide) cl_L_15 ca_EIA (fun q2 => ?_)
    refine v_astore C dL_owedIn_21 rfl (Nat.le_of_ble_eq_true rfl) rfl ?_
    refine v_iconst C dL_owedIn_23 (v := nI 3) (by decide) ?_
    exact v_iret C F rfl dL_owedIn_24 (by omega) (by omega) (Or.inr ⟨_, u, 2, hp, rfl, rfl, rfl⟩)
  · skip
    refine v_i2l C dL_owedIn_8 rfl ?_
    refine v_last C aj_l (by decide) 0 (by decide) rfl dL_owedIn_9 ?_
    refine v_goto C 25 dL_owedIn_10 (by decide) ?_
    refine v_iconst C dL_owedIn_25 (v := nI 0) (by decide) ?_
    exact v_iret C F rfl dL_owedIn_26 (by omega) (by omega) (Or.inl ⟨r, u, hp, rfl, rfl⟩)
theorem ysh_L_firstOwed : YsH yL_firstOwed cL_firstOwed 4 (some .int) [(0, 9, 12, 20), (0, 9, 15, 13)] 3 := ⟨⟨TT_t 727 (by decide +kernel) (by decide +kernel), TT_t 0 (by decide +kernel) (by decide +kernel), TT_t 728 (by decide +kernel) (by decide +kernel)⟩, by decide +kernel, by decide +kernel, by decide +kernel, by decide⟩
set_option maxHeartbeats 1000000 in
theorem hc_firstOwed {l : Launch} (hl : l.stackTraces = false) {κ : Kp} {h : Nat → Nat} {c : Cg} {o : Nat → Int64} {dd : Nat → UInt64} {q : G} {p1 : Int32} {dM mc ms : Nat} (hd : dM < 20) (hm : mc ≤ 6) (hs : ms ≤ 36) {post : Int32 → Cg → Prop} {px : String → Cg → Prop} (M : Ct SS MM l κ yX5_firstOwed cX5_firstOwed 4 (some FieldType.int) dM mc ms [.ref (h 0), .int p1] (cS κ h) c ri post px) (hE : ∀ e u, px e u → e ∈ ([EIS, EIO] : List String)) : CtH SS MM l κ yL_firstOwed cL_firstOwed 4 (some .int) [(0, 9, 12, 20), (0, 9, 15, 13)] 20 6 36 [.ref (h 0), .int p1, .ref (h 124)] (lS κ h) (c, o, dd, q) ri (HPo post px [EIS, EIO] (fun v c2 => (c2, vp_updL o 0 (cvI v), dd, q)) (fun c2 => (c2, o, dd, q))) (fun _ _ => False) := by
  refine CtH.of (own := RL) (by decide +kernel) rfl hl (by simp [Value.category]) (Nat.le_of_ble_eq_true rfl) (fun X hXl hXK C F T => ?_)
  subst hXK
  subst hXl
  refine v_aload_n C dL_firstOwed_0 rfl ?_
  refine v_iconst C dL_firstOwed_1 (v := nI 0) (by decide) ?_
  refine v_aload_n C dL_firstOwed_2 rfl ?_
  refine v_iload_n C dL_firstOwed_3 rfl ?_
  refine v_callVi C M ym_X5_firstOwed ml_L_56 emb_l_c rfl rfl rfl rfl rfl dL_firstOwed_4 hd (by omega) (by omega) (Nat.le_of_ble_eq_true rfl) (fun e u hp => ?_) (fun r u hp => ?_)
  · have hz := hE e u hp
    rcases List.mem_cons.mp hz with rfl | hz
    · refine v_catch C T [] 0 9 12 20 [(0, 9, 15, 13)] rfl (fun z hz => by cases hz) ⟨by decide, by decide⟩ (by decide) cl_L_20 ca_EIS (fun q2 => ?_)
      refine v_astore_n C dL_firstOwed_12 rfl (Nat.le_of_ble_eq_true rfl) rfl ?_
      refine v_iconst C dL_firstOwed_13 (v := nI 1) (by decide) ?_
      exact v_iret C F rfl dL_firstOwed_14 (by omega) (by omega) (Or.inr ⟨_, u, 0, hp, rfl, rfl, rfl⟩)
    obtain rfl := List.mem_singleton.mp hz
    refine v_catch C T [(0, 9, 12, 20)] 0 9 15 13 [] rfl (fun z hz => by obtain rfl := List.mem_singleton.mp hz; exact ⟨by decide, EIS, cl_L_20, List.mem_of_getElem? (i := 1) rfl⟩) ⟨by decide, by decide⟩ (by decide) cl_L_13 ca_EIO (fun q2 => ?_)
    refine v_astore_n C dL_firstOwed_15 rfl (Nat.le_of_ble_eq_true rfl) rfl ?_
    refine v_iconst C dL_firstOwed_16 (v := nI 2) (by decide) ?_
    exact v_iret C F rfl dL_firstOwed_17 (by omega) (by omega) (Or.inr ⟨_, u, 1, hp, rfl, rfl, rfl⟩)
  · skip
    refine v_i2l C dL_firstOwed_7 rfl ?_
    refine v_last C aj_l (by decide) 0 (by decide) rfl dL_firstOwed_8 ?_
    refine v_goto C 18 dL_firstOwed_9 (by decide) ?_
    refine v_iconst C dL_firstOwed_18 (v := nI 0) (by decide) ?_
    exact v_iret C F rfl dL_firstOwed_19 (by omega) (by omega) (Or.inl ⟨r, u, hp, rfl, rfl⟩)
theorem ysh_L_debts : YsH yL_debts cL_debts 3 (some .int) [(0, 8, 11, 20)] 2 := ⟨⟨TT_t 735 (by decide +kernel) (by decide +kernel), TT_t 0 (by decide +kernel) (by decide +kernel), TT_t 736 (by decide +kernel) (by decide +kernel)⟩, by decide +kernel, by decide +kernel, by decide +kernel, by decide⟩
set_option maxHeartbeats 1000000 in
theorem hc_debts {l : Launch} (hl : l.stackTraces = false) {κ : Kp} {h : Nat → Nat} {c : Cg} {o : Nat → Int64} {dd : Nat → UInt64} {q : G} {dM mc ms : Nat} (hd : dM < 20) (hm : mc ≤ 6) (hs : ms ≤ 36) {post : Int32 → Cg → Prop} {px : String → Cg → Prop} (M : Ct SS MM l κ yX5_debts cX5_debts 4 (some FieldType.int) dM mc ms [.ref (h 0)] (cS κ h) c ri post px) (hE : ∀ e u, px e u → e ∈ ([EIS] : List String)) : CtH SS MM l κ yL_debts cL_debts 3 (some .int) [(0, 8, 11, 20)] 20 6 36 [.ref (h 0), .ref (h 124)] (lS κ h) (c, o, dd, q) ri (HPo post px [EIS] (fun v c2 => (c2, vp_updL o 0 (cvI v), dd, q)) (fun c2 => (c2, o, dd, q))) (fun _ _ => False) := by
  refine CtH.of (own := RL) (by decide +kernel) rfl hl (by simp [Value.category]) (Nat.le_of_ble_eq_true rfl) (fun X hXl hXK C F T => ?_)
  subst hXK
  subst hXl
  refine v_aload_n C dL_debts_0 rfl ?_
  refine v_iconst C dL_debts_1 (v := nI 0) (by decide) ?_
  refine v_aload_n C dL_debts_2 rfl ?_
  refine v_callVi C M ym_X5_debts ml_L_59 emb_l_c rfl rfl rfl rfl rfl dL_debts_3 hd (by omega) (by omega) (Nat.le_of_ble_eq_true rfl) (fun e u hp => ?_) (fun r u hp => ?_)
  · have hz := hE e u hp
    obtain rfl := List.mem_singleton.mp hz
    refine v_catch C T [] 0 8 11 20 [] rfl (fun z hz => by cases hz) ⟨by decide, by decide⟩ (by decide) cl_L_20 ca_EIS (fun q2 => ?_)
    refine v_astore_n C dL_debts_11 rfl (Nat.le_of_ble_eq_true rfl) rfl ?_
    refine v_iconst C dL_debts_12 (v := nI 1) (by decide) ?_
    exact v_iret C F rfl dL_debts_13 (by omega) (by omega) (Or.inr ⟨_, u, 0, hp, rfl, rfl, rfl⟩)
  · skip
    refine v_i2l C dL_debts_6 rfl ?_
    refine v_last C aj_l (by decide) 0 (by decide) rfl dL_debts_7 ?_
    refine v_goto C 14 dL_debts_8 (by decide) ?_
    refine v_iconst C dL_debts_14 (v := nI 0) (by decide) ?_
    exact v_iret C F rfl dL_debts_15 (by omega) (by omega) (Or.inl ⟨r, u, hp, rfl, rfl⟩)
theorem ysh_L_debt : YsH yL_debt cL_debt 5 (some .int) [(0, 10, 13, 20), (0, 10, 17, 13), (0, 10, 21, 15)] 4 := ⟨⟨TT_t 750 (by decide +kernel) (by decide +kernel), TT_t 0 (by decide +kernel) (by decide +kernel), TT_t 751 (by decide +kernel) (by decide +kernel)⟩, by decide +kernel, by decide +kernel, by decide +kernel, by decide⟩
set_option maxHeartbeats 1000000 in
theorem hc_debt {l : Launch} (hl : l.stackTraces = false) {κ : Kp} {h : Nat → Nat} {c : Cg} {o : Nat → Int64} {dd : Nat → UInt64} {q : G} {p1 p2 : Int32} {dM mc ms : Nat} (hd : dM < 20) (hm : mc ≤ 6) (hs : ms ≤ 36) {post : Int32 → Cg → Prop} {px : String → Cg → Prop} (M : Ct SS MM l κ yX5_debt cX5_debt 5 (some FieldType.int) dM mc ms [.ref (h 0), .int p1, .int p2] (cS κ h) c ri post px) (hE : ∀ e u, px e u → e ∈ ([EIS, EIO, EIA] : List String)) : CtH SS MM l κ yL_debt cL_debt 5 (some .int) [(0, 10, 13, 20), (0, 10, 17, 13), (0, 10, 21, 15)] 20 6 36 [.ref (h 0), .int p1, .int p2, .ref (h 124)] (lS κ h) (c, o, dd, q) ri (HPo post px [EIS, EIO, EIA] (fun v c2 => (c2, vp_updL o 0 (cvI v), dd, q)) (fun c2 => (c2, o, dd, q))) (fun _ _ => False) := by
  refine CtH.of (own := RL) (by decide +kernel) rfl hl (by simp [Value.category]) (Nat.le_of_ble_eq_true rfl) (fun X hXl hXK C F T => ?_)
  subst hXK
  subst hXl
  refine v_aload_n C dL_debt_0 rfl ?_
  refine v_iconst C dL_debt_1 (v := nI 0) (by decide) ?_
  refine v_aload_n C dL_debt_2 rfl ?_
  refine v_iload_n C dL_debt_3 rfl ?_
  refine v_iload_n C dL_debt_4 rfl ?_
  refine v_callVi C M ym_X5_debt ml_L_62 emb_l_c rfl rfl rfl rfl rfl dL_debt_5 hd (by omega) (by omega) (Nat.le_of_ble_eq_true rfl) (fun e u hp => ?_) (fun r u hp => ?_)
  · have hz := hE e u hp
    rcases List.mem_cons.mp hz with rfl | hz
    · refine v_catch C T [] 0 10 13 20 [(0, 10, 17, 13), (0, 10, 21, 15)] rfl (fun z hz => by cases hz) ⟨by decide, by decide⟩ (by decide) cl_L_20 ca_EIS (fun q2 => ?_)
      refine v_astore C dL_debt_13 rfl (Nat.le_of_ble_eq_true rfl) rfl ?_
      refine v_iconst C dL_debt_15 (v := nI 1) (by decide) ?_
      exact v_iret C F rfl dL_debt_16 (by omega) (by omega) (Or.inr ⟨_, u, 0, hp, rfl, rfl, rfl⟩)
    rcases List.mem_cons.mp hz with rfl | hz
    · refine v_catch C T [(0, 10, 13, 20)] 0 10 17 13 [(0, 10, 21, 15)] rfl (fun z hz => by obtain rfl := List.mem_singleton.mp hz; exact ⟨by decide, EIS, cl_L_20, List.mem_of_getElem? (i := 1) rfl⟩) ⟨by decide, by decide⟩ (by decide) cl_L_13 ca_EIO (fun q2 => ?_)
      refine v_astore C dL_debt_17 rfl (Nat.le_of_ble_eq_true rfl) rfl ?_
      refine v_iconst C dL_debt_19 (v := nI 2) (by decide) ?_
      exact v_iret C F rfl dL_debt_20 (by omega) (by omega) (Or.inr ⟨_, u, 1, hp, rfl, rfl, rfl⟩)
    obtain rfl := List.mem_singleton.mp hz
    refine v_catch C T [(0, 10, 13, 20), (0, 10, 17, 13)] 0 10 21 15 [] rfl (fun z hz => (List.mem_cons.mp hz).elim (fun z1 => by rw [z1]; exact ⟨by decide, EIS, cl_L_20, List.mem_of_getElem? (i := 3) rfl⟩) (fun hz => by obtain rfl := List.mem_singleton.mp hz; exact ⟨by decide, EIO, cl_L_13, List.mem_of_getElem? (i := 2) rfl⟩)) ⟨by decide, by decide⟩ (by decide) cl_L_15 ca_EIA (fun q2 => ?_)
    refine v_astore C dL_debt_21 rfl (Nat.le_of_ble_eq_true rfl) rfl ?_
    refine v_iconst C dL_debt_23 (v := nI 3) (by decide) ?_
    exact v_iret C F rfl dL_debt_24 (by omega) (by omega) (Or.inr ⟨_, u, 2, hp, rfl, rfl, rfl⟩)
  · skip
    refine v_i2l C dL_debt_8 rfl ?_
    refine v_last C aj_l (by decide) 0 (by decide) rfl dL_debt_9 ?_
    refine v_goto C 25 dL_debt_10 (by decide) ?_
    refine v_iconst C dL_debt_25 (v := nI 0) (by decide) ?_
    exact v_iret C F rfl dL_debt_26 (by omega) (by omega) (Or.inl ⟨r, u, hp, rfl, rfl⟩)
theorem ysh_L_most : YsH yL_most cL_most 3 (some .int) [(0, 8, 11, 20)] 2 := ⟨⟨TT_t 767 (by decide +kernel) (by decide +kernel), TT_t 0 (by decide +kernel) (by decide +kernel), TT_t 768 (by decide +kernel) (by decide +kernel)⟩, by decide +kernel, by decide +kernel, by decide +kernel, by decide⟩
set_option maxHeartbeats 1000000 in
theorem hc_most {l : Launch} (hl : l.stackTraces = false) {κ : Kp} {h : Nat → Nat} {c : Cg} {o : Nat → Int64} {dd : Nat → UInt64} {q : G} {dM mc ms : Nat} (hd : dM < 20) (hm : mc ≤ 6) (hs : ms ≤ 36) {post : Int32 → Cg → Prop} {px : String → Cg → Prop} (M : Ct SS MM l κ yX5_most cX5_most 2 (some FieldType.int) dM mc ms [.ref (h 0)] (cS κ h) c ri post px) (hE : ∀ e u, px e u → e ∈ ([EIS] : List String)) : CtH SS MM l κ yL_most cL_most 3 (some .int) [(0, 8, 11, 20)] 20 6 36 [.ref (h 0), .ref (h 124)] (lS κ h) (c, o, dd, q) ri (HPo post px [EIS] (fun v c2 => (c2, vp_updL o 0 (cvI v), dd, q)) (fun c2 => (c2, o, dd, q))) (fun _ _ => False) := by
  refine CtH.of (own := RL) (by decide +kernel) rfl hl (by simp [Value.category]) (Nat.le_of_ble_eq_true rfl) (fun X hXl hXK C F T => ?_)
  subst hXK
  subst hXl
  refine v_aload_n C dL_most_0 rfl ?_
  refine v_iconst C dL_most_1 (v := nI 0) (by decide) ?_
  refine v_aload_n C dL_most_2 rfl ?_
  refine v_callVi C M ym_X5_most ml_L_65 emb_l_c rfl rfl rfl rfl rfl dL_most_3 hd (by omega) (by omega) (Nat.le_of_ble_eq_true rfl) (fun e u hp => ?_) (fun r u hp => ?_)
  · have hz := hE e u hp
    obtain rfl := List.mem_singleton.mp hz
    refine v_catch C T [] 0 8 11 20 [] rfl (fun z hz => by cases hz) ⟨by decide, by decide⟩ (by decide) cl_L_20 ca_EIS (fun q2 => ?_)
    refine v_astore_n C dL_most_11 rfl (Nat.le_of_ble_eq_true rfl) rfl ?_
    refine v_iconst C dL_most_12 (v := nI 1) (by decide) ?_
    exact v_iret C F rfl dL_most_13 (by omega) (by omega) (Or.inr ⟨_, u, 0, hp, rfl, rfl, rfl⟩)
  · skip
    refine v_i2l C dL_most_6 rfl ?_
    refine v_last C aj_l (by decide) 0 (by decide) rfl dL_most_7 ?_
    refine v_goto C 14 dL_most_8 (by decide) ?_
    refine v_iconst C dL_most_14 (v := nI 0) (by decide) ?_
    exact v_iret C F rfl dL_most_15 (by omega) (by omega) (Or.inl ⟨r, u, hp, rfl, rfl⟩)
theorem ysh_L_deepest : YsH yL_deepest cL_deepest 3 (some .int) [(0, 8, 11, 20)] 2 := ⟨⟨TT_t 775 (by decide +kernel) (by decide +kernel), TT_t 0 (by decide +kernel) (by decide +kernel), TT_t 776 (by decide +kernel) (by decide +kernel)⟩, by decide +kernel, by decide +kernel, by decide +kernel, by decide⟩
set_option maxHeartbeats 1000000 in
theorem hc_deepest {l : Launch} (hl : l.stackTraces = false) {κ : Kp} {h : Nat → Nat} {c : Cg} {o : Nat → Int64} {dd : Nat → UInt64} {q : G} {dM mc ms : Nat} (hd : dM < 20) (hm : mc ≤ 6) (hs : ms ≤ 36) {post : Int32 → Cg → Prop} {px : String → Cg → Prop} (M : Ct SS MM l κ yX5_deepest cX5_deepest 1 (some FieldType.int) dM mc ms [.ref (h 0)] (cS κ h) c ri post px) (hE : ∀ e u, px e u → e ∈ ([EIS] : List String)) : CtH SS MM l κ yL_deepest cL_deepest 3 (some .int) [(0, 8, 11, 20)] 20 6 36 [.ref (h 0), .ref (h 124)] (lS κ h) (c, o, dd, q) ri (HPo post px [EIS] (fun v c2 => (c2, vp_updL o 0 (cvI v), dd, q)) (fun c2 => (c2, o, dd, q))) (fun _ _ => False) := by
  refine CtH.of (own := RL) (by decide +kernel) rfl hl (by simp [Value.category]) (Nat.le_of_ble_eq_true rfl) (fun X hXl hXK C F T => ?_)
  subst hXK
  subst hXl
  refine v_aload_n C dL_deepest_0 rfl ?_
  refine v_iconst C dL_deepest_1 (v := nI 0) (by decide) ?_
  refine v_aload_n C dL_deepest_2 rfl ?_
  refine v_callVi C M ym_X5_deepest ml_L_68 emb_l_c rfl rfl rfl rfl rfl dL_deepest_3 hd (by omega) (by omega) (Nat.le_of_ble_eq_true rfl) (fun e u hp => ?_) (fun r u hp => ?_)
  · have hz := hE e u hp
    obtain rfl := List.mem_singleton.mp hz
    refine v_catch C T [] 0 8 11 20 [] rfl (fun z hz => by cases hz) ⟨by decide, by decide⟩ (by decide) cl_L_20 ca_EIS (fun q2 => ?_)
    refine v_astore_n C dL_deepest_11 rfl (Nat.le_of_ble_eq_true rfl) rfl ?_
    refine v_iconst C dL_deepest_12 (v := nI 1) (by decide) ?_
    exact v_iret C F rfl dL_deepest_13 (by omega) (by omega) (Or.inr ⟨_, u, 0, hp, rfl, rfl, rfl⟩)
  · skip
    refine v_i2l C dL_deepest_6 rfl ?_
    refine v_last C aj_l (by decide) 0 (by decide) rfl dL_deepest_7 ?_
    refine v_goto C 14 dL_deepest_8 (by decide) ?_
    refine v_iconst C dL_deepest_14 (v := nI 0) (by decide) ?_
    exact v_iret C F rfl dL_deepest_15 (by omega) (by omega) (Or.inl ⟨r, u, hp, rfl, rfl⟩)
theorem ysh_L_distance : YsH yL_distance cL_distance 5 (some .int) [(0, 10, 13, 20), (0, 10, 17, 13)] 4 := ⟨⟨TT_t 782 (by decide +kernel) (by decide +kernel), TT_t 0 (by decide +kernel) (by decide +kernel), TT_t 783 (by decide +kernel) (by decide +kernel)⟩, by decide +kernel, by decide +kernel, by decide +kernel, by decide⟩
set_option maxHeartbeats 1000000 in
theorem hc_distance {l : Launch} (hl : l.stackTraces = false) {κ : Kp} {h : Nat → Nat} {c : Cg} {o : Nat → Int64} {dd : Nat → UInt64} {q : G} {p1 p2 : Int32} {dM mc ms : Nat} (hd : dM < 20) (hm : mc ≤ 6) (hs : ms ≤ 36) {post : Int32 → Cg → Prop} {px : String → Cg → Prop} (M : Ct SS MM l κ yX5_distance cX5_distance 3 (some FieldType.int) dM mc ms [.ref (h 0), .int p1, .int p2] (cS κ h) c ri post px) (hE : ∀ e u, px e u → e ∈ ([EIS, EIO] : List String)) : CtH SS MM l κ yL_distance cL_distance 5 (some .int) [(0, 10, 13, 20), (0, 10, 17, 13)] 20 6 36 [.ref (h 0), .int p1, .int p2, .ref (h 124)] (lS κ h) (c, o, dd, q) ri (HPo post px [EIS, EIO] (fun v c2 => (c2, vp_updL o 0 (cvI v), dd, q)) (fun c2 => (c2, o, dd, q))) (fun _ _ => False) := by
  refine CtH.of (own := RL) (by decide +kernel) rfl hl (by simp [Value.category]) (Nat.le_of_ble_eq_true rfl) (fun X hXl hXK C F T => ?_)
  subst hXK
  subst hXl
  refine v_aload_n C dL_distance_0 rfl ?_
  refine v_iconst C dL_distance_1 (v := nI 0) (by decide) ?_
  refine v_aload_n C dL_distance_2 rfl ?_
  refine v_iload_n C dL_distance_3 rfl ?_
  refine v_iload_n C dL_distance_4 rfl ?_
  refine v_callVi C M ym_X5_distance ml_L_71 emb_l_c rfl rfl rfl rfl rfl dL_distance_5 hd (by omega) (by omega) (Nat.le_of_ble_eq_true rfl) (fun e u hp => ?_) (fun r u hp => ?_)
  · have hz := hE e u hp
    rcases List.mem_cons.mp hz with rfl | hz
    · refine v_catch C T [] 0 10 13 20 [(0, 10, 17, 13)] rfl (fun z hz => by cases hz) ⟨by decide, by decide⟩ (by decide) cl_L_20 ca_EIS (fun q2 => ?_)
      refine v_astore C dL_distance_13 rfl (Nat.le_of_ble_eq_true rfl) rfl ?_
      refine v_iconst C dL_distance_15 (v := nI 1) (by decide) ?_
      exact v_iret C F rfl dL_distance_16 (by omega) (by omega) (Or.inr ⟨_, u, 0, hp, rfl, rfl, rfl⟩)
    obtain rfl := List.mem_singleton.mp hz
    refine v_catch C T [(0, 10, 13, 20)] 0 10 17 13 [] rfl (fun z hz => by obtain rfl := List.mem_singleton.mp hz; exact ⟨by decide, EIS, cl_L_20, List.mem_of_getElem? (i := 1) rfl⟩) ⟨by decide, by decide⟩ (by decide) cl_L_13 ca_EIO (fun q2 => ?_)
    refine v_astore C dL_distance_17 rfl (Nat.le_of_ble_eq_true rfl) rfl ?_
    refine v_iconst C dL_distance_19 (v := nI 2) (by decide) ?_
    exact v_iret C F rfl dL_distance_20 (by omega) (by omega) (Or.inr ⟨_, u, 1, hp, rfl, rfl, rfl⟩)
  · skip
    refine v_i2l C dL_distance_8 rfl ?_
    refine v_last C aj_l (by decide) 0 (by decide) rfl dL_distance_9 ?_
    refine v_goto C 21 dL_distance_10 (by decide) ?_
    refine v_iconst C dL_distance_21 (v := nI 0) (by decide) ?_
    exact v_iret C F rfl dL_distance_22 (by omega) (by omega) (Or.inl ⟨r, u, hp, rfl, rfl⟩)
theorem ysh_L_oldest : YsH yL_oldest cL_oldest 3 (some .int) [(0, 8, 11, 20)] 2 := ⟨⟨TT_t 789 (by decide +kernel) (by decide +kernel), TT_t 0 (by decide +kernel) (by decide +kernel), TT_t 790 (by decide +kernel) (by decide +kernel)⟩, by decide +kernel, by decide +kernel, by decide +kernel, by decide⟩
set_option maxHeartbeats 1000000 in
theorem hc_oldest {l : Launch} (hl : l.stackTraces = false) {κ : Kp} {h : Nat → Nat} {c : Cg} {o : Nat → Int64} {dd : Nat → UInt64} {q : G} {dM mc ms : Nat} (hd : dM < 20) (hm : mc ≤ 6) (hs : ms ≤ 36) {post : Int32 → Cg → Prop} {px : String → Cg → Prop} (M : Ct SS MM l κ yX5_oldest cX5_oldest 2 (some FieldType.int) dM mc ms [.ref (h 0)] (cS κ h) c ri post px) (hE : ∀ e u, px e u → e ∈ ([EIS] : List String)) : CtH SS MM l κ yL_oldest cL_oldest 3 (some .int) [(0, 8, 11, 20)] 20 6 36 [.ref (h 0), .ref (h 124)] (lS κ h) (c, o, dd, q) ri (HPo post px [EIS] (fun v c2 => (c2, vp_updL o 0 (cvI v), dd, q)) (fun c2 => (c2, o, dd, q))) (fun _ _ => False) := by
  refine CtH.of (own := RL) (by decide +kernel) rfl hl (by simp [Value.category]) (Nat.le_of_ble_eq_true rfl) (fun X hXl hXK C F T => ?_)
  subst hXK
  subst hXl
  refine v_aload_n C dL_oldest_0 rfl ?_
  refine v_iconst C dL_oldest_1 (v := nI 0) (by decide) ?_
  refine v_aload_n C dL_oldest_2 rfl ?_
  refine v_callVi C M ym_X5_oldest ml_L_74 emb_l_c rfl rfl rfl rfl rfl dL_oldest_3 hd (by omega) (by omega) (Nat.le_of_ble_eq_true rfl) (fun e u hp => ?_) (fun r u hp => ?_)
  · have hz := hE e u hp
    obtain rfl := List.mem_singleton.mp hz
    refine v_catch C T [] 0 8 11 20 [] rfl (fun z hz => by cases hz) ⟨by decide, by decide⟩ (by decide) cl_L_20 ca_EIS (fun q2 => ?_)
    refine v_astore_n C dL_oldest_11 rfl (Nat.le_of_ble_eq_true rfl) rfl ?_
    refine v_iconst C dL_oldest_12 (v := nI 1) (by decide) ?_
    exact v_iret C F rfl dL_oldest_13 (by omega) (by omega) (Or.inr ⟨_, u, 0, hp, rfl, rfl, rfl⟩)
  · skip
    refine v_i2l C dL_oldest_6 rfl ?_
    refine v_last C aj_l (by decide) 0 (by decide) rfl dL_oldest_7 ?_
    refine v_goto C 14 dL_oldest_8 (by decide) ?_
    refine v_iconst C dL_oldest_14 (v := nI 0) (by decide) ?_
    exact v_iret C F rfl dL_oldest_15 (by omega) (by omega) (Or.inl ⟨r, u, hp, rfl, rfl⟩)
theorem ysh_L_creditors : YsH yL_creditors cL_creditors 3 (some .int) [(0, 8, 11, 20)] 2 := ⟨⟨TT_t 796 (by decide +kernel) (by decide +kernel), TT_t 0 (by decide +kernel) (by decide +kernel), TT_t 797 (by decide +kernel) (by decide +kernel)⟩, by decide +kernel, by decide +kernel, by decide +kernel, by decide⟩
set_option maxHeartbeats 1000000 in
theorem hc_creditors {l : Launch} (hl : l.stackTraces = false) {κ : Kp} {h : Nat → Nat} {c : Cg} {o : Nat → Int64} {dd : Nat → UInt64} {q : G} {dM mc ms : Nat} (hd : dM < 20) (hm : mc ≤ 6) (hs : ms ≤ 36) {post : Int32 → Cg → Prop} {px : String → Cg → Prop} (M : Ct SS MM l κ yX5_creditors cX5_creditors 4 (some FieldType.int) dM mc ms [.ref (h 0)] (cS κ h) c ri post px) (hE : ∀ e u, px e u → e ∈ ([EIS] : List String)) : CtH SS MM l κ yL_creditors cL_creditors 3 (some .int) [(0, 8, 11, 20)] 20 6 36 [.ref (h 0), .ref (h 124)] (lS κ h) (c, o, dd, q) ri (HPo post px [EIS] (fun v c2 => (c2, vp_updL o 0 (cvI v), dd, q)) (fun c2 => (c2, o, dd, q))) (fun _ _ => False) := by
  refine CtH.of (own := RL) (by decide +kernel) rfl hl (by simp [Value.category]) (Nat.le_of_ble_eq_true rfl) (fun X hXl hXK C F T => ?_)
  subst hXK
  subst hXl
  refine v_aload_n C dL_creditors_0 rfl ?_
  refine v_iconst C dL_creditors_1 (v := nI 0) (by decide) ?_
  refine v_aload_n C dL_creditors_2 rfl ?_
  refine v_callVi C M ym_X5_creditors ml_L_77 emb_l_c rfl rfl rfl rfl rfl dL_creditors_3 hd (by omega) (by omega) (Nat.le_of_ble_eq_true rfl) (fun e u hp => ?_) (fun r u hp => ?_)
  · have hz := hE e u hp
    obtain rfl := List.mem_singleton.mp hz
    refine v_catch C T [] 0 8 11 20 [] rfl (fun z hz => by cases hz) ⟨by decide, by decide⟩ (by decide) cl_L_20 ca_EIS (fun q2 => ?_)
    refine v_astore_n C dL_creditors_11 rfl (Nat.le_of_ble_eq_true rfl) rfl ?_
    refine v_iconst C dL_creditors_12 (v := nI 1) (by decide) ?_
    exact v_iret C F rfl dL_creditors_13 (by omega) (by omega) (Or.inr ⟨_, u, 0, hp, rfl, rfl, rfl⟩)
  · skip
    refine v_i2l C dL_creditors_6 rfl ?_
    refine v_last C aj_l (by decide) 0 (by decide) rfl dL_creditors_7 ?_
    refine v_goto C 14 dL_creditors_8 (by decide) ?_
    refine v_iconst C dL_creditors_14 (v := nI 0) (by decide) ?_
    exact v_iret C F rfl dL_creditors_15 (by omega) (by omega) (Or.inl ⟨r, u, hp, rfl, rfl⟩)
theorem ysh_L_next : YsH yL_next cL_next 3 (some .int) [(0, 8, 11, 20)] 2 := ⟨⟨TT_t 807 (by decide +kernel) (by decide +kernel), TT_t 0 (by decide +kernel) (by decide +kernel), TT_t 808 (by decide +kernel) (by decide +kernel)⟩, by decide +kernel, by decide +kernel, by decide +kernel, by decide⟩
set_option maxHeartbeats 1000000 in
theorem hc_next {l : Launch} (hl : l.stackTraces = false) {κ : Kp} {h : Nat → Nat} {c : Cg} {o : Nat → Int64} {dd : Nat → UInt64} {q : G} {dM mc ms : Nat} (hd : dM < 20) (hm : mc ≤ 6) (hs : ms ≤ 36) {post : Int32 → Cg → Prop} {px : String → Cg → Prop} (M : Ct SS MM l κ yX5_next cX5_next 1 (some FieldType.int) dM mc ms [.ref (h 0)] (cS κ h) c ri post px) (hE : ∀ e u, px e u → e ∈ ([EIS] : List String)) : CtH SS MM l κ yL_next cL_next 3 (some .int) [(0, 8, 11, 20)] 20 6 36 [.ref (h 0), .ref (h 124)] (lS κ h) (c, o, dd, q) ri (HPo post px [EIS] (fun v c2 => (c2, vp_updL o 0 (cvI v), dd, q)) (fun c2 => (c2, o, dd, q))) (fun _ _ => False) := by
  refine CtH.of (own := RL) (by decide +kernel) rfl hl (by simp [Value.category]) (Nat.le_of_ble_eq_true rfl) (fun X hXl hXK C F T => ?_)
  subst hXK
  subst hXl
  refine v_aload_n C dL_next_0 rfl ?_
  refine v_iconst C dL_next_1 (v := nI 0) (by decide) ?_
  refine v_aload_n C dL_next_2 rfl ?_
  refine v_callVi C M ym_X5_next ml_L_80 emb_l_c rfl rfl rfl rfl rfl dL_next_3 hd (by omega) (by omega) (Nat.le_of_ble_eq_true rfl) (fun e u hp => ?_) (fun r u hp => ?_)
  · have hz := hE e u hp
    obtain rfl := List.mem_singleton.mp hz
    refine v_catch C T [] 0 8 11 20 [] rfl (fun z hz => by cases hz) ⟨by decide, by decide⟩ (by decide) cl_L_20 ca_EIS (fun q2 => ?_)
    refine v_astore_n C dL_next_11 rfl (Nat.le_of_ble_eq_true rfl) rfl ?_
    refine v_iconst C dL_next_12 (v := nI 1) (by decide) ?_
    exact v_iret C F rfl dL_next_13 (by omega) (by omega) (Or.inr ⟨_, u, 0, hp, rfl, rfl, rfl⟩)
  · skip
    refine v_i2l C dL_next_6 rfl ?_
    refine v_last C aj_l (by decide) 0 (by decide) rfl dL_next_7 ?_
    refine v_goto C 14 dL_next_8 (by decide) ?_
    refine v_iconst C dL_next_14 (v := nI 0) (by decide) ?_
    exact v_iret C F rfl dL_next_15 (by omega) (by omega) (Or.inl ⟨r, u, hp, rfl, rfl⟩)
theorem ysh_L_stale : YsH yL_stale cL_stale 3 (some .int) [(0, 8, 11, 20)] 2 := ⟨⟨TT_t 814 (by decide +kernel) (by decide +kernel), TT_t 0 (by decide +kernel) (by decide +kernel), TT_t 815 (by decide +kernel) (by decide +kernel)⟩, by decide +kernel, by decide +kernel, by decide +kernel, by decide⟩
set_option maxHeartbeats 1000000 in
theorem hc_stale {l : Launch} (hl : l.stackTraces = false) {κ : Kp} {h : Nat → Nat} {c : Cg} {o : Nat → Int64} {dd : Nat → UInt64} {q : G} {dM mc ms : Nat} (hd : dM < 20) (hm : mc ≤ 6) (hs : ms ≤ 36) {post : Int32 → Cg → Prop} {px : String → Cg → Prop} (M : Ct SS MM l κ yX5_stale cX5_stale 4 (some FieldType.int) dM mc ms [.ref (h 0)] (cS κ h) c ri post px) (hE : ∀ e u, px e u → e ∈ ([EIS] : List String)) : CtH SS MM l κ yL_stale cL_stale 3 (some .int) [(0, 8, 11, 20)] 20 6 36 [.ref (h 0), .ref (h 124)] (lS κ h) (c, o, dd, q) ri (HPo post px [EIS] (fun v c2 => (c2, vp_updL o 0 (cvI v), dd, q)) (fun c2 => (c2, o, dd, q))) (fun _ _ => False) := by
  refine CtH.of (own := RL) (by decide +kernel) rfl hl (by simp [Value.category]) (Nat.le_of_ble_eq_true rfl) (fun X hXl hXK C F T => ?_)
  subst hXK
  subst hXl
  refine v_aload_n C dL_stale_0 rfl ?_
  refine v_iconst C dL_stale_1 (v := nI 0) (by decide) ?_
  refine v_aload_n C dL_stale_2 rfl ?_
  refine v_callVi C M ym_X5_stale ml_L_83 emb_l_c rfl rfl rfl rfl rfl dL_stale_3 hd (by omega) (by omega) (Nat.le_of_ble_eq_true rfl) (fun e u hp => ?_) (fun r u hp => ?_)
  · have hz := hE e u hp
    obtain rfl := List.mem_singleton.mp hz
    refine v_catch C T [] 0 8 11 20 [] rfl (fun z hz => by cases hz) ⟨by decide, by decide⟩ (by decide) cl_L_20 ca_EIS (fun q2 => ?_)
    refine v_astore_n C dL_stale_11 rfl (Nat.le_of_ble_eq_true rfl) rfl ?_
    refine v_iconst C dL_stale_12 (v := nI 1) (by decide) ?_
    exact v_iret C F rfl dL_stale_13 (by omega) (by omega) (Or.inr ⟨_, u, 0, hp, rfl, rfl, rfl⟩)
  · skip
    refine v_i2l C dL_stale_6 rfl ?_
    refine v_last C aj_l (by decide) 0 (by decide) rfl dL_stale_7 ?_
    refine v_goto C 14 dL_stale_8 (by decide) ?_
    refine v_iconst C dL_stale_14 (v := nI 0) (by decide) ?_
    exact v_iret C F rfl dL_stale_15 (by omega) (by omega) (Or.inl ⟨r, u, hp, rfl, rfl⟩)
theorem ysh_L_sum : YsH yL_sum cL_sum 5 (some .int) [(0, 10, 13, 20), (0, 10, 17, 13), (0, 10, 21, 15)] 4 := ⟨⟨TT_t 821 (by decide +kernel) (by decide +kernel), TT_t 0 (by decide +kernel) (by decide +kernel), TT_t 822 (by decide +kernel) (by decide +kernel)⟩, by decide +kernel, by decide +kernel, by decide +kernel, by decide⟩
set_option maxHeartbeats 1000000 in
theorem hc_sum {l : Launch} (hl : l.stackTraces = false) {κ : Kp} {h : Nat → Nat} {c : Cg} {o : Nat → Int64} {dd : Nat → UInt64} {q : G} {p1 p2 : Int32} {dM mc ms : Nat} (hd : dM < 20) (hm : mc ≤ 6) (hs : ms ≤ 36) {post : Int32 → Cg → Prop} {px : String → Cg → Prop} (M : Ct SS MM l κ yX5_sum cX5_sum 5 (some FieldType.int) dM mc ms [.ref (h 0), .int p1, .int p2] (cS κ h) c ri post px) (hE : ∀ e u, px e u → e ∈ ([EIS, EIO, EIA] : List String)) : CtH SS MM l κ yL_sum cL_sum 5 (some .int) [(0, 10, 13, 20), (0, 10, 17, 13), (0, 10, 21, 15)] 20 6 36 [.ref (h 0), .int p1, .int p2, .ref (h 124)] (lS κ h) (c, o, dd, q) ri (HPo post px [EIS, EIO, EIA] (fun v c2 => (c2, vp_updL o 0 (cvI v), dd, q)) (fun c2 => (c2, o, dd, q))) (fun _ _ => False) := by
  refine CtH.of (own := RL) (by decide +kernel) rfl hl (by simp [Value.category]) (Nat.le_of_ble_eq_true rfl) (fun X hXl hXK C F T => ?_)
  subst hXK
  subst hXl
  refine v_aload_n C dL_sum_0 rfl ?_
  refine v_iconst C dL_sum_1 (v := nI 0) (by decide) ?_
  refine v_aload_n C dL_sum_2 rfl ?_
  refine v_iload_n C dL_sum_3 rfl ?_
  refine v_iload_n C dL_sum_4 rfl ?_
  refine v_callVi C M ym_X5_sum ml_L_86 emb_l_c rfl rfl rfl rfl rfl dL_sum_5 hd (by omega) (by omega) (Nat.le_of_ble_eq_true rfl) (fun e u hp => ?_) (fun r u hp => ?_)
  · have hz := hE e u hp
    rcases List.mem_cons.mp hz with rfl | hz
    · refine v_catch C T [] 0 10 13 20 [(0, 10, 17, 13), (0, 10, 21, 15)] rfl (fun z hz => by cases hz) ⟨by decide, by decide⟩ (by decide) cl_L_20 ca_EIS (fun q2 => ?_)
      refine v_astore C dL_sum_13 rfl (Nat.le_of_ble_eq_true rfl) rfl ?_
      refine v_iconst C dL_sum_15 (v := nI 1) (by decide) ?_
      exact v_iret C F rfl dL_sum_16 (by omega) (by omega) (Or.inr ⟨_, u, 0, hp, rfl, rfl, rfl⟩)
    rcases List.mem_cons.mp hz with rfl | hz
    · refine v_catch C T [(0, 10, 13, 20)] 0 10 17 13 [(0, 10, 21, 15)] rfl (fun z hz => by obtain rfl := List.mem_singleton.mp hz; exact ⟨by decide, EIS, cl_L_20, List.mem_of_getElem? (i := 1) rfl⟩) ⟨by decide, by decide⟩ (by decide) cl_L_13 ca_EIO (fun q2 => ?_)
      refine v_astore C dL_sum_17 rfl (Nat.le_of_ble_eq_true rfl) rfl ?_
      refine v_iconst C dL_sum_19 (v := nI 2) (by decide) ?_
      exact v_iret C F rfl dL_sum_20 (by omega) (by omega) (Or.inr ⟨_, u, 1, hp, rfl, rfl, rfl⟩)
    obtain rfl := List.mem_singleton.mp hz
    refine v_catch C T [(0, 10, 13, 20), (0, 10, 17, 13)] 0 10 21 15 [] rfl (fun z hz => (List.mem_cons.mp hz).elim (fun z1 => by rw [z1]; exact ⟨by decide, EIS, cl_L_20, List.mem_of_getElem? (i := 3) rfl⟩) (fun hz => by obtain rfl := List.mem_singleton.mp hz; exact ⟨by decide, EIO, cl_L_13, List.mem_of_getElem? (i := 2) rfl⟩)) ⟨by decide, by decide⟩ (by decide) cl_L_15 ca_EIA (fun q2 => ?_)
    refine v_astore C dL_sum_21 rfl (Nat.le_of_ble_eq_true rfl) rfl ?_
    refine v_iconst C dL_sum_23 (v := nI 3) (by decide) ?_
    exact v_iret C F rfl dL_sum_24 (by omega) (by omega) (Or.inr ⟨_, u, 2, hp, rfl, rfl, rfl⟩)
  · skip
    refine v_i2l C dL_sum_8 rfl ?_
    refine v_last C aj_l (by decide) 0 (by decide) rfl dL_sum_9 ?_
    refine v_goto C 25 dL_sum_10 (by decide) ?_
    refine v_iconst C dL_sum_25 (v := nI 0) (by decide) ?_
    exact v_iret C F rfl dL_sum_26 (by omega) (by omega) (Or.inl ⟨r, u, hp, rfl, rfl⟩)
theorem ysh_L_find : YsH yL_find cL_find 5 (some .int) [(0, 10, 13, 20), (0, 10, 17, 13), (0, 10, 21, 15)] 4 := ⟨⟨TT_t 828 (by decide +kernel) (by decide +kernel), TT_t 0 (by decide +kernel) (by decide +kernel), TT_t 829 (by decide +kernel) (by decide +kernel)⟩, by decide +kernel, by decide +kernel, by decide +kernel, by decide⟩
set_option maxHeartbeats 1000000 in
theorem hc_find {l : Launch} (hl : l.stackTraces = false) {κ : Kp} {h : Nat → Nat} {c : Cg} {o : Nat → Int64} {dd : Nat → UInt64} {q : G} {p1 p2 : Int32} {dM mc ms : Nat} (hd : dM < 20) (hm : mc ≤ 6) (hs : ms ≤ 36) {post : Int32 → Cg → Prop} {px : String → Cg → Prop} (M : Ct SS MM l κ yX5_find cX5_find 5 (some FieldType.int) dM mc ms [.ref (h 0), .int p1, .int p2] (cS κ h) c ri post px) (hE : ∀ e u, px e u → e ∈ ([EIS, EIO, EIA] : List String)) : CtH SS MM l κ yL_find cL_find 5 (some .int) [(0, 10, 13, 20), (0, 10, 17, 13), (0, 10, 21, 15)] 20 6 36 [.ref (h 0), .int p1, .int p2, .ref (h 124)] (lS κ h) (c, o, dd, q) ri (HPo post px [EIS, EIO, EIA] (fun v c2 => (c2, vp_updL o 0 (cvI v), dd, q)) (fun c2 => (c2, o, dd, q))) (fun _ _ => False) := by
  refine CtH.of (own := RL) (by decide +kernel) rfl hl (by simp [Value.category]) (Nat.le_of_ble_eq_true rfl) (fun X hXl hXK C F T => ?_)
  subst hXK
  subst hXl
  refine v_aload_n C dL_find_0 rfl ?_
  refine v_iconst C dL_find_1 (v := nI 0) (by decide) ?_
  refine v_aload_n C dL_find_2 rfl ?_
  refine v_iload_n C dL_find_3 rfl ?_
  refine v_iload_n C dL_find_4 rfl ?_
  refine v_callVi C M ym_X5_find ml_L_89 emb_l_c rfl rfl rfl rfl rfl dL_find_5 hd (by omega) (by omega) (Nat.le_of_ble_eq_true rfl) (fun e u hp => ?_) (fun r u hp => ?_)
  · have hz := hE e u hp
    rcases List.mem_cons.mp hz with rfl | hz
    · refine v_catch C T [] 0 10 13 20 [(0, 10, 17, 13), (0, 10, 21, 15)] rfl (fun z hz => by cases hz) ⟨by decide, by decide⟩ (by decide) cl_L_20 ca_EIS (fun q2 => ?_)
      refine v_astore C dL_find_13 rfl (Nat.le_of_ble_eq_true rfl) rfl ?_
      refine v_iconst C dL_find_15 (v := nI 1) (by decide) ?_
      exact v_iret C F rfl dL_find_16 (by omega) (by omega) (Or.inr ⟨_, u, 0, hp, rfl, rfl, rfl⟩)
    rcases List.mem_cons.mp hz with rfl | hz
    · refine v_catch C T [(0, 10, 13, 20)] 0 10 17 13 [(0, 10, 21, 15)] rfl (fun z hz => by obtain rfl := List.mem_singleton.mp hz; exact ⟨by decide, EIS, cl_L_20, List.mem_of_getElem? (i := 1) rfl⟩) ⟨by decide, by decide⟩ (by decide) cl_L_13 ca_EIO (fun q2 => ?_)
      refine v_astore C dL_find_17 rfl (Nat.le_of_ble_eq_true rfl) rfl ?_
      refine v_iconst C dL_find_19 (v := nI 2) (by decide) ?_
      exact v_iret C F rfl dL_find_20 (by omega) (by omega) (Or.inr ⟨_, u, 1, hp, rfl, rfl, rfl⟩)
    obtain rfl := List.mem_singleton.mp hz
    refine v_catch C T [(0, 10, 13, 20), (0, 10, 17, 13)] 0 10 21 15 [] rfl (fun z hz => (List.mem_cons.mp hz).elim (fun z1 => by rw [z1]; exact ⟨by decide, EIS, cl_L_20, List.mem_of_getElem? (i := 3) rfl⟩) (fun hz => by obtain rfl := List.mem_singleton.mp hz; exact ⟨by decide, EIO, cl_L_13, List.mem_of_getElem? (i := 2) rfl⟩)) ⟨by decide, by decide⟩ (by decide) cl_L_15 ca_EIA (fun q2 => ?_)
    refine v_astore C dL_find_21 rfl (Nat.le_of_ble_eq_true rfl) rfl ?_
    refine v_iconst C dL_find_23 (v := nI 3) (by decide) ?_
    exact v_iret C F rfl dL_find_24 (by omega) (by omega) (Or.inr ⟨_, u, 2, hp, rfl, rfl, rfl⟩)
  · skip
    refine v_i2l C dL_find_8 rfl ?_
    refine v_last C aj_l (by decide) 0 (by decide) rfl dL_find_9 ?_
    refine v_goto C 25 dL_find_10 (by decide) ?_
    refine v_iconst C dL_find_25 (v := nI 0) (by decide) ?_
    exact v_iret C F rfl dL_find_26 (by omega) (by omega) (Or.inl ⟨r, u, hp, rfl, rfl⟩)
theorem ysh_L_same : YsH yL_same cL_same 6 (some .int) [(0, 19, 22, 20), (0, 19, 26, 13), (0, 19, 30, 15)] 5 := ⟨⟨TT_t 840 (by decide +kernel) (by decide +kernel), TT_t 0 (by decide +kernel) (by decide +kernel), TT_t 841 (by decide +kernel) (by decide +kernel)⟩, by decide +kernel, by decide +kernel, by decide +kernel, by decide⟩
set_option maxHeartbeats 1000000 in
theorem hc_same {l : Launch} (hl : l.stackTraces = false) {κ : Kp} {h : Nat → Nat} {c : Cg} {o : Nat → Int64} {dd : Nat → UInt64} {q : G} {p1 p2 p3 : Int32} {dM mc ms : Nat} (hd : dM < 20) (hm : mc ≤ 6) (hs : ms ≤ 36) {post : Int32 → Cg → Prop} {px : String → Cg → Prop} (M : Ct SS MM l κ yX5_same cX5_same 6 (some FieldType.boolean) dM mc ms [.ref (h 0), .int p1, .int p2, .int p3] (cS κ h) c ri post px) (hE : ∀ e u, px e u → e ∈ ([EIS, EIO, EIA] : List String)) : CtH SS MM l κ yL_same cL_same 6 (some .int) [(0, 19, 22, 20), (0, 19, 26, 13), (0, 19, 30, 15)] 20 6 36 [.ref (h 0), .int p1, .int p2, .int p3, .ref (h 124)] (lS κ h) (c, o, dd, q) ri (HPo post px [EIS, EIO, EIA] (fun v c2 => (c2, vp_updL o 0 (cvZ v), dd, q)) (fun c2 => (c2, o, dd, q))) (fun _ _ => False) := by
  refine CtH.of (own := RL) (by decide +kernel) rfl hl (by simp [Value.category]) (Nat.le_of_ble_eq_true rfl) (fun X hXl hXK C F T => ?_)
  subst hXK
  subst hXl
  refine v_aload C dL_same_0 rfl ?_
  refine v_iconst C dL_same_2 (v := nI 0) (by decide) ?_
  refine v_aload_n C dL_same_3 rfl ?_
  refine v_iload_n C dL_same_4 rfl ?_
  refine v_iload_n C dL_same_5 rfl ?_
  refine v_iload_n C dL_same_6 rfl ?_
  refine v_callVi C M ym_X5_same ml_L_92 emb_l_c rfl rfl rfl rfl rfl dL_same_7 hd (by omega) (by omega) (Nat.le_of_ble_eq_true rfl) (fun e u hp => ?_) (fun r u hp => ?_)
  · have hz := hE e u hp
    rcases List.mem_cons.mp hz with rfl | hz
    · refine v_catch C T [] 0 19 22 20 [(0, 19, 26, 13), (0, 19, 30, 15)] rfl (fun z hz => by cases hz) ⟨by decide, by decide⟩ (by decide) cl_L_20 ca_EIS (fun q2 => ?_)
      refine v_astore C dL_same_22 rfl (Nat.le_of_ble_eq_true rfl) rfl ?_
      refine v_iconst C dL_same_24 (v := nI 1) (by decide) ?_
      exact v_iret C F rfl dL_same_25 (by omega) (by omega) (Or.inr ⟨_, u, 0, hp, rfl, rfl, rfl⟩)
    rcases List.mem_cons.mp hz with rfl | hz
    · refine v_catch C T [(0, 19, 22, 20)] 0 19 26 13 [(0, 19, 30, 15)] rfl (fun z hz => by obtain rfl := List.mem_singleton.mp hz; exact ⟨by decide, EIS, cl_L_20, List.mem_of_getElem? (i := 1) rfl⟩) ⟨by decide, by decide⟩ (by decide) cl_L_13 ca_EIO (fun q2 => ?_)
      refine v_astore C dL_same_26 rfl (Nat.le_of_ble_eq_true rfl) rfl ?_
      refine v_iconst C dL_same_28 (v := nI 2) (by decide) ?_
      exact v_iret C F rfl dL_same_29 (by omega) (by omega) (Or.inr ⟨_, u, 1, hp, rfl, rfl, rfl⟩)
    obtain rfl := List.mem_singleton.mp hz
    refine v_catch C T [(0, 19, 22, 20), (0, 19, 26, 13)] 0 19 30 15 [] rfl (fun z hz => (List.mem_cons.mp hz).elim (fun z1 => by rw [z1]; exact ⟨by decide, EIS, cl_L_20, List.mem_of_getElem? (i := 3) rfl⟩) (fun hz => by obtain rfl := List.mem_singleton.mp hz; exact ⟨by decide, EIO, cl_L_13, List.mem_of_getElem? (i := 2) rfl⟩)) ⟨by decide, by decide⟩ (by decide) cl_L_15 ca_EIA (fun q2 => ?_)
    refine v_astore C dL_same_30 rfl (Nat.le_of_ble_eq_true rfl) rfl ?_
    refine v_iconst C dL_same_32 (v := nI 3) (by decide) ?_
    exact v_iret C F rfl dL_same_33 (by omega) (by omega) (Or.inr ⟨_, u, 2, hp, rfl, rfl, rfl⟩)
  · skip
    refine v_if_eq C 17 dL_same_10 (by decide) (fun hz => ?_) (fun hz => ?_)
    · skip
      refine v_lconst C dL_same_17 (v := 0) (by decide) ?_
      refine v_last C aj_l (by decide) 0 (by decide) rfl dL_same_18 ?_
      refine v_goto C 34 dL_same_19 (by decide) ?_
      refine v_iconst C dL_same_34 (v := nI 0) (by decide) ?_
      exact v_iret C F rfl dL_same_35 (by omega) (by omega) (Or.inl ⟨r, u, hp, rfl, by show (u, vp_updL o 0 0, dd, q) = (u, vp_updL o 0 (cvZ r), dd, q); rw [show cvZ r = 0 from if_pos hz]⟩)
    · skip
      refine v_lconst C dL_same_13 (v := 1) (by decide) ?_
      refine v_goto C 18 dL_same_14 (by decide) ?_
      refine v_last C aj_l (by decide) 0 (by decide) rfl dL_same_18 ?_
      refine v_goto C 34 dL_same_19 (by decide) ?_
      refine v_iconst C dL_same_34 (v := nI 0) (by decide) ?_
      exact v_iret C F rfl dL_same_35 (by omega) (by omega) (Or.inl ⟨r, u, hp, rfl, by show (u, vp_updL o 0 1, dd, q) = (u, vp_updL o 0 (cvZ r), dd, q); rw [show cvZ r = 1 from if_neg hz]⟩)
theorem ysh_L_checksum : YsH yL_checksum cL_checksum 3 (some .int) [(0, 7, 10, 20)] 2 := ⟨⟨TT_t 849 (by decide +kernel) (by decide +kernel), TT_t 0 (by decide +kernel) (by decide +kernel), TT_t 850 (by decide +kernel) (by decide +kernel)⟩, by decide +kernel, by decide +kernel, by decide +kernel, by decide⟩
set_option maxHeartbeats 1000000 in
theorem hc_checksum {l : Launch} (hl : l.stackTraces = false) {κ : Kp} {h : Nat → Nat} {c : Cg} {o : Nat → Int64} {dd : Nat → UInt64} {q : G} {dM mc ms : Nat} (hd : dM < 20) (hm : mc ≤ 6) (hs : ms ≤ 36) {post : Int64 → Cg → Prop} {px : String → Cg → Prop} (M : Ct SS MM l κ yX5_checksum cX5_checksum 5 (some FieldType.long) dM mc ms [.ref (h 0)] (cS κ h) c rl post px) (hE : ∀ e u, px e u → e ∈ ([EIS] : List String)) : CtH SS MM l κ yL_checksum cL_checksum 3 (some .int) [(0, 7, 10, 20)] 20 6 36 [.ref (h 0), .ref (h 124)] (lS κ h) (c, o, dd, q) ri (HPo post px [EIS] (fun v c2 => (c2, vp_updL o 0 (v), dd, q)) (fun c2 => (c2, o, dd, q))) (fun _ _ => False) := by
  refine CtH.of (own := RL) (by decide +kernel) rfl hl (by simp [Value.category]) (Nat.le_of_ble_eq_true rfl) (fun X hXl hXK C F T => ?_)
  subst hXK
  subst hXl
  refine v_aload_n C dL_checksum_0 rfl ?_
  refine v_iconst C dL_checksum_1 (v := nI 0) (by decide) ?_
  refine v_aload_n C dL_checksum_2 rfl ?_
  refine v_callVl C M ym_X5_checksum ml_L_96 emb_l_c rfl rfl rfl rfl rfl dL_checksum_3 hd (by omega) (by omega) (Nat.le_of_ble_eq_true rfl) (fun e u hp => ?_) (fun r u hp => ?_)
  · have hz := hE e u hp
    obtain rfl := List.mem_singleton.mp hz
    refine v_catch C T [] 0 7 10 20 [] rfl (fun z hz => by cases hz) ⟨by decide, by decide⟩ (by decide) cl_L_20 ca_EIS (fun q2 => ?_)
    refine v_astore_n C dL_checksum_10 rfl (Nat.le_of_ble_eq_true rfl) rfl ?_
    refine v_iconst C dL_checksum_11 (v := nI 1) (by decide) ?_
    exact v_iret C F rfl dL_checksum_12 (by omega) (by omega) (Or.inr ⟨_, u, 0, hp, rfl, rfl, rfl⟩)
  · skip
    refine v_last C aj_l (by decide) 0 (by decide) rfl dL_checksum_6 ?_
    refine v_goto C 13 dL_checksum_7 (by decide) ?_
    refine v_iconst C dL_checksum_13 (v := nI 0) (by decide) ?_
    exact v_iret C F rfl dL_checksum_14 (by omega) (by omega) (Or.inl ⟨r, u, hp, rfl, rfl⟩)
theorem ysh_L_whyCopy : YsH yL_whyCopy cL_whyCopy 6 (some .int) [(0, 12, 15, 20)] 5 := ⟨⟨TT_t 858 (by decide +kernel) (by decide +kernel), TT_t 0 (by decide +kernel) (by decide +kernel), TT_t 859 (by decide +kernel) (by decide +kernel)⟩, by decide +kernel, by decide +kernel, by decide +kernel, by decide⟩
set_option maxHeartbeats 1000000 in
theorem hc_whyCopy {l : Launch} (hl : l.stackTraces = false) {κ : Kp} {h : Nat → Nat} {c : Cg} {o : Nat → Int64} {dd : Nat → UInt64} {q : G} {p1 p2 p3 : Int32} {dM mc ms : Nat} (hd : dM < 20) (hm : mc ≤ 6) (hs : ms ≤ 36) {post : Int32 → Cg → Prop} {px : String → Cg → Prop} (M : Ct SS MM l κ yX5_whyCopy cX5_whyCopy 4 (some FieldType.int) dM mc ms [.ref (h 0), .int p1, .int p2, .int p3] (cS κ h) c ri post px) (hE : ∀ e u, px e u → e ∈ ([EIS] : List String)) : CtH SS MM l κ yL_whyCopy cL_whyCopy 6 (some .int) [(0, 12, 15, 20)] 20 6 36 [.ref (h 0), .int p1, .int p2, .int p3, .ref (h 124)] (lS κ h) (c, o, dd, q) ri (HPo post px [EIS] (fun v c2 => (c2, vp_updL o 0 (cvI v), dd, q)) (fun c2 => (c2, o, dd, q))) (fun _ _ => False) := by
  refine CtH.of (own := RL) (by decide +kernel) rfl hl (by simp [Value.category]) (Nat.le_of_ble_eq_true rfl) (fun X hXl hXK C F T => ?_)
  subst hXK
  subst hXl
  refine v_aload C dL_whyCopy_0 rfl ?_
  refine v_iconst C dL_whyCopy_2 (v := nI 0) (by decide) ?_
  refine v_aload_n C dL_whyCopy_3 rfl ?_
  refine v_iload_n C dL_whyCopy_4 rfl ?_
  refine v_iload_n C dL_whyCopy_5 rfl ?_
  refine v_iload_n C dL_whyCopy_6 rfl ?_
  refine v_callVi C M ym_X5_whyCopy ml_L_100 emb_l_c rfl rfl rfl rfl rfl dL_whyCopy_7 hd (by omega) (by omega) (Nat.le_of_ble_eq_true rfl) (fun e u hp => ?_) (fun r u hp => ?_)
  · have hz := hE e u hp
    obtain rfl := List.mem_singleton.mp hz
    refine v_catch C T [] 0 12 15 20 [] rfl (fun z hz => by cases hz) ⟨by decide, by decide⟩ (by decide) cl_L_20 ca_EIS (fun q2 => ?_)
    refine v_astore C dL_whyCopy_15 rfl (Nat.le_of_ble_eq_true rfl) rfl ?_
    refine v_iconst C dL_whyCopy_17 (v := nI 1) (by decide) ?_
    exact v_iret C F rfl dL_whyCopy_18 (by omega) (by omega) (Or.inr ⟨_, u, 0, hp, rfl, rfl, rfl⟩)
  · skip
    refine v_i2l C dL_whyCopy_10 rfl ?_
    refine v_last C aj_l (by decide) 0 (by decide) rfl dL_whyCopy_11 ?_
    refine v_goto C 19 dL_whyCopy_12 (by decide) ?_
    refine v_iconst C dL_whyCopy_19 (v := nI 0) (by decide) ?_
    exact v_iret C F rfl dL_whyCopy_20 (by omega) (by omega) (Or.inl ⟨r, u, hp, rfl, rfl⟩)
theorem ysh_L_forcedByCopy : YsH yL_forcedByCopy cL_forcedByCopy 6 (some .int) [(0, 12, 15, 20), (0, 12, 19, 15)] 5 := ⟨⟨TT_t 866 (by decide +kernel) (by decide +kernel), TT_t 0 (by decide +kernel) (by decide +kernel), TT_t 867 (by decide +kernel) (by decide +kernel)⟩, by decide +kernel, by decide +kernel, by decide +kernel, by decide⟩
set_option maxHeartbeats 1000000 in
theorem hc_forcedByCopy {l : Launch} (hl : l.stackTraces = false) {κ : Kp} {h : Nat → Nat} {c : Cg} {o : Nat → Int64} {dd : Nat → UInt64} {q : G} {p1 p2 p3 : Int32} {dM mc ms : Nat} (hd : dM < 20) (hm : mc ≤ 6) (hs : ms ≤ 36) {post : Int32 → Cg → Prop} {px : String → Cg → Prop} (M : Ct SS MM l κ yX5_forcedByCopy cX5_forcedByCopy 4 (some FieldType.int) dM mc ms [.ref (h 0), .int p1, .int p2, .int p3] (cS κ h) c ri post px) (hE : ∀ e u, px e u → e ∈ ([EIS, EIA] : List String)) : CtH SS MM l κ yL_forcedByCopy cL_forcedByCopy 6 (some .int) [(0, 12, 15, 20), (0, 12, 19, 15)] 20 6 36 [.ref (h 0), .int p1, .int p2, .int p3, .ref (h 124)] (lS κ h) (c, o, dd, q) ri (HPo post px [EIS, EIA] (fun v c2 => (c2, vp_updL o 0 (cvI v), dd, q)) (fun c2 => (c2, o, dd, q))) (fun _ _ => False) := by
  refine CtH.of (own := RL) (by decide +kernel) rfl hl (by simp [Value.category]) (Nat.le_of_ble_eq_true rfl) (fun X hXl hXK C F T => ?_)
  subst hXK
  subst hXl
  refine v_aload C dL_forcedByCopy_0 rfl ?_
  refine v_iconst C dL_forcedByCopy_2 (v := nI 0) (by decide) ?_
  refine v_aload_n C dL_forcedByCopy_3 rfl ?_
  refine v_iload_n C dL_forcedByCopy_4 rfl ?_
  refine v_iload_n C dL_forcedByCopy_5 rfl ?_
  refine v_iload_n C dL_forcedByCopy_6 rfl ?_
  refine v_callVi C M ym_X5_forcedByCopy ml_L_104 emb_l_c rfl rfl rfl rfl rfl dL_forcedByCopy_7 hd (by omega) (by omega) (Nat.le_of_ble_eq_true rfl) (fun e u hp => ?_) (fun r u hp => ?_)
  · have hz := hE e u hp
    rcases List.mem_cons.mp hz with rfl | hz
    · refine v_catch C T [] 0 12 15 20 [(0, 12, 19, 15)] rfl (fun z hz => by cases hz) ⟨by decide, by decide⟩ (by decide) cl_L_20 ca_EIS (fun q2 => ?_)
      refine v_astore C dL_forcedByCopy_15 rfl (Nat.le_of_ble_eq_true rfl) rfl ?_
      refine v_iconst C dL_forcedByCopy_17 (v := nI 1) (by decide) ?_
      exact v_iret C F rfl dL_forcedByCopy_18 (by omega) (by omega) (Or.inr ⟨_, u, 0, hp, rfl, rfl, rfl⟩)
    obtain rfl := List.mem_singleton.mp hz
    refine v_catch C T [(0, 12, 15, 20)] 0 12 19 15 [] rfl (fun z hz => by obtain rfl := List.mem_singleton.mp hz; exact ⟨by decide, EIS, cl_L_20, List.mem_of_getElem? (i := 3) rfl⟩) ⟨by decide, by decide⟩ (by decide) cl_L_15 ca_EIA (fun q2 => ?_)
    refine v_astore C dL_forcedByCopy_19 rfl (Nat.le_of_ble_eq_true rfl) rfl ?_
    refine v_iconst C dL_forcedByCopy_21 (v := nI 2) (by decide) ?_
    exact v_iret C F rfl dL_forcedByCopy_22 (by omega) (by omega) (Or.inr ⟨_, u, 1, hp, rfl, rfl, rfl⟩)
  · skip
    refine v_i2l C dL_forcedByCopy_10 rfl ?_
    refine v_last C aj_l (by decide) 0 (by decide) rfl dL_forcedByCopy_11 ?_
    refine v_goto C 23 dL_forcedByCopy_12 (by decide) ?_
    refine v_iconst C dL_forcedByCopy_23 (v := nI 0) (by decide) ?_
    exact v_iret C F rfl dL_forcedByCopy_24 (by omega) (by omega) (Or.inl ⟨r, u, hp, rfl, rfl⟩)
theorem ysh_L_owedIfCopy : YsH yL_owedIfCopy cL_owedIfCopy 6 (some .int) [(0, 12, 15, 20), (0, 12, 19, 15)] 5 := ⟨⟨TT_t 891 (by decide +kernel) (by decide +kernel), TT_t 0 (by decide +kernel) (by decide +kernel), TT_t 892 (by decide +kernel) (by decide +kernel)⟩, by decide +kernel, by decide +kernel, by decide +kernel, by decide⟩
set_option maxHeartbeats 1000000 in
theorem hc_owedIfCopy {l : Launch} (hl : l.stackTraces = false) {κ : Kp} {h : Nat → Nat} {c : Cg} {o : Nat → Int64} {dd : Nat → UInt64} {q : G} {p1 p2 p3 : Int32} {dM mc ms : Nat} (hd : dM < 20) (hm : mc ≤ 6) (hs : ms ≤ 36) {post : Int32 → Cg → Prop} {px : String → Cg → Prop} (M : Ct SS MM l κ yX5_owedIfCopy cX5_owedIfCopy 4 (some FieldType.int) dM mc ms [.ref (h 0), .int p1, .int p2, .int p3] (cS κ h) c ri post px) (hE : ∀ e u, px e u → e ∈ ([EIS, EIA] : List String)) : CtH SS MM l κ yL_owedIfCopy cL_owedIfCopy 6 (some .int) [(0, 12, 15, 20), (0, 12, 19, 15)] 20 6 36 [.ref (h 0), .int p1, .int p2, .int p3, .ref (h 124)] (lS κ h) (c, o, dd, q) ri (HPo post px [EIS, EIA] (fun v c2 => (c2, vp_updL o 0 (cvI v), dd, q)) (fun c2 => (c2, o, dd, q))) (fun _ _ => False) := by
  refine CtH.of (own := RL) (by decide +kernel) rfl hl (by simp [Value.category]) (Nat.le_of_ble_eq_true rfl) (fun X hXl hXK C F T => ?_)
  subst hXK
  subst hXl
  refine v_aload C dL_owedIfCopy_0 rfl ?_
  refine v_iconst C dL_owedIfCopy_2 (v := nI 0) (by decide) ?_
  refine v_aload_n C dL_owedIfCopy_3 rfl ?_
  refine v_iload_n C dL_owedIfCopy_4 rfl ?_
  refine v_iload_n C dL_owedIfCopy_5 rfl ?_
  refine v_iload_n C dL_owedIfCopy_6 rfl ?_
  refine v_callVi C M ym_X5_owedIfCopy ml_L_107 emb_l_c rfl rfl rfl rfl rfl dL_owedIfCopy_7 hd (by omega) (by omega) (Nat.le_of_ble_eq_true rfl) (fun e u hp => ?_) (fun r u hp => ?_)
  · have hz := hE e u hp
    rcases List.mem_cons.mp hz with rfl | hz
    · refine v_catch C T [] 0 12 15 20 [(0, 12, 19, 15)] rfl (fun z hz => by cases hz) ⟨by decide, by decide⟩ (by decide) cl_L_20 ca_EIS (fun q2 => ?_)
      refine v_astore C dL_owedIfCopy_15 rfl (Nat.le_of_ble_eq_true rfl) rfl ?_
      refine v_iconst C dL_owedIfCopy_17 (v := nI 1) (by decide) ?_
      exact v_iret C F rfl dL_owedIfCopy_18 (by omega) (by omega) (Or.inr ⟨_, u, 0, hp, rfl, rfl, rfl⟩)
    obtain rfl := List.mem_singleton.mp hz
    refine v_catch C T [(0, 12, 15, 20)] 0 12 19 15 [] rfl (fun z hz => by obtain rfl := List.mem_singleton.mp hz; exact ⟨by decide, EIS, cl_L_20, List.mem_of_getElem? (i := 3) rfl⟩) ⟨by decide, by decide⟩ (by decide) cl_L_15 ca_EIA (fun q2 => ?_)
    refine v_astore C dL_owedIfCopy_19 rfl (Nat.le_of_ble_eq_true rfl) rfl ?_
    refine v_iconst C dL_owedIfCopy_21 (v := nI 2) (by decide) ?_
    exact v_iret C F rfl dL_owedIfCopy_22 (by omega) (by omega) (Or.inr ⟨_, u, 1, hp, rfl, rfl, rfl⟩)
  · skip
    refine v_i2l C dL_owedIfCopy_10 rfl ?_
    refine v_last C aj_l (by decide) 0 (by decide) rfl dL_owedIfCopy_11 ?_
    refine v_goto C 23 dL_owedIfCopy_12 (by decide) ?_
    refine v_iconst C dL_owedIfCopy_23 (v := nI 0) (by decide) ?_
    exact v_iret C F rfl dL_owedIfCopy_24 (by omega) (by omega) (Or.inl ⟨r, u, hp, rfl, rfl⟩)
theorem ysh_L_costOfCopy : YsH yL_costOfCopy cL_costOfCopy 6 (some .int) [(0, 12, 15, 20), (0, 12, 19, 15)] 5 := ⟨⟨TT_t 898 (by decide +kernel) (by decide +kernel), TT_t 0 (by decide +kernel) (by decide +kernel), TT_t 899 (by decide +kernel) (by decide +kernel)⟩, by decide +kernel, by decide +kernel, by decide +kernel, by decide⟩
set_option maxHeartbeats 1000000 in
theorem hc_costOfCopy {l : Launch} (hl : l.stackTraces = false) {κ : Kp} {h : Nat → Nat} {c : Cg} {o : Nat → Int64} {dd : Nat → UInt64} {q : G} {p1 p2 p3 : Int32} {dM mc ms : Nat} (hd : dM < 20) (hm : mc ≤ 6) (hs : ms ≤ 36) {post : Int32 → Cg → Prop} {px : String → Cg → Prop} (M : Ct SS MM l κ yX5_costOfCopy cX5_costOfCopy 4 (some FieldType.int) dM mc ms [.ref (h 0), .int p1, .int p2, .int p3] (cS κ h) c ri post px) (hE : ∀ e u, px e u → e ∈ ([EIS, EIA] : List String)) : CtH SS MM l κ yL_costOfCopy cL_costOfCopy 6 (some .int) [(0, 12, 15, 20), (0, 12, 19, 15)] 20 6 36 [.ref (h 0), .int p1, .int p2, .int p3, .ref (h 124)] (lS κ h) (c, o, dd, q) ri (HPo post px [EIS, EIA] (fun v c2 => (c2, vp_updL o 0 (cvI v), dd, q)) (fun c2 => (c2, o, dd, q))) (fun _ _ => False) := by
  refine CtH.of (own := RL) (by decide +kernel) rfl hl (by simp [Value.category]) (Nat.le_of_ble_eq_true rfl) (fun X hXl hXK C F T => ?_)
  subst hXK
  subst hXl
  refine v_aload C dL_costOfCopy_0 rfl ?_
  refine v_iconst C dL_costOfCopy_2 (v := nI 0) (by decide) ?_
  refine v_aload_n C dL_costOfCopy_3 rfl ?_
  refine v_iload_n C dL_costOfCopy_4 rfl ?_
  refine v_iload_n C dL_costOfCopy_5 rfl ?_
  refine v_iload_n C dL_costOfCopy_6 rfl ?_
  refine v_callVi C M ym_X5_costOfCopy ml_L_110 emb_l_c rfl rfl rfl rfl rfl dL_costOfCopy_7 hd (by omega) (by omega) (Nat.le_of_ble_eq_true rfl) (fun e u hp => ?_) (fun r u hp => ?_)
  · have hz := hE e u hp
    rcases List.mem_cons.mp hz with rfl | hz
    · refine v_catch C T [] 0 12 15 20 [(0, 12, 19, 15)] rfl (fun z hz => by cases hz) ⟨by decide, by decide⟩ (by decide) cl_L_20 ca_EIS (fun q2 => ?_)
      refine v_astore C dL_costOfCopy_15 rfl (Nat.le_of_ble_eq_true rfl) rfl ?_
      refine v_iconst C dL_costOfCopy_17 (v := nI 1) (by decide) ?_
      exact v_iret C F rfl dL_costOfCopy_18 (by omega) (by omega) (Or.inr ⟨_, u, 0, hp, rfl, rfl, rfl⟩)
    obtain rfl := List.mem_singleton.mp hz
    refine v_catch C T [(0, 12, 15, 20)] 0 12 19 15 [] rfl (fun z hz => by obtain rfl := List.mem_singleton.mp hz; exact ⟨by decide, EIS, cl_L_20, List.mem_of_getElem? (i := 3) rfl⟩) ⟨by decide, by decide⟩ (by decide) cl_L_15 ca_EIA (fun q2 => ?_)
    refine v_astore C dL_costOfCopy_19 rfl (Nat.le_of_ble_eq_true rfl) rfl ?_
    refine v_iconst C dL_costOfCopy_21 (v := nI 2) (by decide) ?_
    exact v_iret C F rfl dL_costOfCopy_22 (by omega) (by omega) (Or.inr ⟨_, u, 1, hp, rfl, rfl, rfl⟩)
  · skip
    refine v_i2l C dL_costOfCopy_10 rfl ?_
    refine v_last C aj_l (by decide) 0 (by decide) rfl dL_costOfCopy_11 ?_
    refine v_goto C 23 dL_costOfCopy_12 (by decide) ?_
    refine v_iconst C dL_costOfCopy_23 (v := nI 0) (by decide) ?_
    exact v_iret C F rfl dL_costOfCopy_24 (by omega) (by omega) (Or.inl ⟨r, u, hp, rfl, rfl⟩)
theorem ysh_L_forcedByWrite : YsH yL_forcedByWrite cL_forcedByWrite 4 (some .int) [(0, 9, 12, 20), (0, 9, 15, 13), (0, 9, 18, 15)] 3 := ⟨⟨TT_t 905 (by decide +kernel) (by decide +kernel), TT_t 0 (by decide +kernel) (by decide +kernel), TT_t 906 (by decide +kernel) (by decide +kernel)⟩, by decide +kernel, by decide +kernel, by decide +kernel, by decide⟩
set_option maxHeartbeats 1000000 in
theorem hc_forcedByWrite {l : Launch} (hl : l.stackTraces = false) {κ : Kp} {h : Nat → Nat} {c : Cg} {o : Nat → Int64} {dd : Nat → UInt64} {q : G} {p1 : Int32} {dM mc ms : Nat} (hd : dM < 20) (hm : mc ≤ 6) (hs : ms ≤ 36) {post : Int32 → Cg → Prop} {px : String → Cg → Prop} (M : Ct SS MM l κ yX5_forcedByWrite cX5_forcedByWrite 2 (some FieldType.int) dM mc ms [.ref (h 0), .int p1] (cS κ h) c ri post px) (hE : ∀ e u, px e u → e ∈ ([EIS, EIO, EIA] : List String)) : CtH SS MM l κ yL_forcedByWrite cL_forcedByWrite 4 (some .int) [(0, 9, 12, 20), (0, 9, 15, 13), (0, 9, 18, 15)] 20 6 36 [.ref (h 0), .int p1, .ref (h 124)] (lS κ h) (c, o, dd, q) ri (HPo post px [EIS, EIO, EIA] (fun v c2 => (c2, vp_updL o 0 (cvI v), dd, q)) (fun c2 => (c2, o, dd, q))) (fun _ _ => False) := by
  refine CtH.of (own := RL) (by decide +kernel) rfl hl (by simp [Value.category]) (Nat.le_of_ble_eq_true rfl) (fun X hXl hXK C F T => ?_)
  subst hXK
  subst hXl
  refine v_aload_n C dL_forcedByWrite_0 rfl ?_
  refine v_iconst C dL_forcedByWrite_1 (v := nI 0) (by decide) ?_
  refine v_aload_n C dL_forcedByWrite_2 rfl ?_
  refine v_iload_n C dL_forcedByWrite_3 rfl ?_
  refine v_callVi C M ym_X5_forcedByWrite ml_L_113 emb_l_c rfl rfl rfl rfl rfl dL_forcedByWrite_4 hd (by omega) (by omega) (Nat.le_of_ble_eq_true rfl) (fun e u hp => ?_) (fun r u hp => ?_)
  · have hz := hE e u hp
    rcases List.mem_cons.mp hz with rfl | hz
    · refine v_catch C T [] 0 9 12 20 [(0, 9, 15, 13), (0, 9, 18, 15)] rfl (fun z hz => by cases hz) ⟨by decide, by decide⟩ (by decide) cl_L_20 ca_EIS (fun q2 => ?_)
      refine v_astore_n C dL_forcedByWrite_12 rfl (Nat.le_of_ble_eq_true rfl) rfl ?_
      refine v_iconst C dL_forcedByWrite_13 (v := nI 1) (by decide) ?_
      exact v_iret C F rfl dL_forcedByWrite_14 (by omega) (by omega) (Or.inr ⟨_, u, 0, hp, rfl, rfl, rfl⟩)
    rcases List.mem_cons.mp hz with rfl | hz
    · refine v_catch C T [(0, 9, 12, 20)] 0 9 15 13 [(0, 9, 18, 15)] rfl (fun z hz => by obtain rfl := List.mem_singleton.mp hz; exact ⟨by decide, EIS, cl_L_20, List.mem_of_getElem? (i := 1) rfl⟩) ⟨by decide, by decide⟩ (by decide) cl_L_13 ca_EIO (fun q2 => ?_)
      refine v_astore_n C dL_forcedByWrite_15 rfl (Nat.le_of_ble_eq_true rfl) rfl ?_
      refine v_iconst C dL_forcedByWrite_16 (v := nI 2) (by decide) ?_
      exact v_iret C F rfl dL_forcedByWrite_17 (by omega) (by omega) (Or.inr ⟨_, u, 1, hp, rfl, rfl, rfl⟩)
    obtain rfl := List.mem_singleton.mp hz
    refine v_catch C T [(0, 9, 12, 20), (0, 9, 15, 13)] 0 9 18 15 [] rfl (fun z hz => (List.mem_cons.mp hz).elim (fun z1 => by rw [z1]; exact ⟨by decide, EIS, cl_L_20, List.mem_of_getElem? (i := 3) rfl⟩) (fun hz => by obtain rfl := List.mem_singleton.mp hz; exact ⟨by decide, EIO, cl_L_13, List.mem_of_getElem? (i := 2) rfl⟩)) ⟨by decide, by decide⟩ (by decide) cl_L_15 ca_EIA (fun q2 => ?_)
    refine v_astore_n C dL_forcedByWrite_18 rfl (Nat.le_of_ble_eq_true rfl) rfl ?_
    refine v_iconst C dL_forcedByWrite_19 (v := nI 3) (by decide) ?_
    exact v_iret C F rfl dL_forcedByWrite_20 (by omega) (by omega) (Or.inr ⟨_, u, 2, hp, rfl, rfl, rfl⟩)
  · skip
    refine v_i2l C dL_forcedByWrite_7 rfl ?_
    refine v_last C aj_l (by decide) 0 (by decide) rfl dL_forcedByWrite_8 ?_
    refine v_goto C 21 dL_forcedByWrite_9 (by decide) ?_
    refine v_iconst C dL_forcedByWrite_21 (v := nI 0) (by decide) ?_
    exact v_iret C F rfl dL_forcedByWrite_22 (by omega) (by omega) (Or.inl ⟨r, u, hp, rfl, rfl⟩)
theorem ysh_L_forcedByFill : YsH yL_forcedByFill cL_forcedByFill 5 (some .int) [(0, 10, 13, 20), (0, 10, 17, 13), (0, 10, 21, 15)] 4 := ⟨⟨TT_t 919 (by decide +kernel) (by decide +kernel), TT_t 0 (by decide +kernel) (by decide +kernel), TT_t 920 (by decide +kernel) (by decide +kernel)⟩, by decide +kernel, by decide +kernel, by decide +kernel, by decide⟩
set_option maxHeartbeats 1000000 in
theorem hc_forcedByFill {l : Launch} (hl : l.stackTraces = false) {κ : Kp} {h : Nat → Nat} {c : Cg} {o : Nat → Int64} {dd : Nat → UInt64} {q : G} {p1 p2 : Int32} {dM mc ms : Nat} (hd : dM < 20) (hm : mc ≤ 6) (hs : ms ≤ 36) {post : Int32 → Cg → Prop} {px : String → Cg → Prop} (M : Ct SS MM l κ yX5_forcedByFill cX5_forcedByFill 3 (some FieldType.int) dM mc ms [.ref (h 0), .int p1, .int p2] (cS κ h) c ri post px) (hE : ∀ e u, px e u → e ∈ ([EIS, EIO, EIA] : List String)) : CtH SS MM l κ yL_forcedByFill cL_forcedByFill 5 (some .int) [(0, 10, 13, 20), (0, 10, 17, 13), (0, 10, 21, 15)] 20 6 36 [.ref (h 0), .int p1, .int p2, .ref (h 124)] (lS κ h) (c, o, dd, q) ri (HPo post px [EIS, EIO, EIA] (fun v c2 => (c2, vp_updL o 0 (cvI v), dd, q)) (fun c2 => (c2, o, dd, q))) (fun _ _ => False) := by
  refine CtH.of (own := RL) (by decide +kernel) rfl hl (by simp [Value.category]) (Nat.le_of_ble_eq_true rfl) (fun X hXl hXK C F T => ?_)
  subst hXK
  subst hXl
  refine v_aload_n C dL_forcedByFill_0 rfl ?_
  refine v_iconst C dL_forcedByFill_1 (v := nI 0) (by decide) ?_
  refine v_aload_n C dL_forcedByFill_2 rfl ?_
  refine v_iload_n C dL_forcedByFill_3 rfl ?_
  refine v_iload_n C dL_forcedByFill_4 rfl ?_
  refine v_callVi C M ym_X5_forcedByFill ml_L_116 emb_l_c rfl rfl rfl rfl rfl dL_forcedByFill_5 hd (by omega) (by omega) (Nat.le_of_ble_eq_true rfl) (fun e u hp => ?_) (fun r u hp => ?_)
  · have hz := hE e u hp
    rcases List.mem_cons.mp hz with rfl | hz
    · refine v_catch C T [] 0 10 13 20 [(0, 10, 17, 13), (0, 10, 21, 15)] rfl (fun z hz => by cases hz) ⟨by decide, by decide⟩ (by decide) cl_L_20 ca_EIS (fun q2 => ?_)
      refine v_astore C dL_forcedByFill_13 rfl (Nat.le_of_ble_eq_true rfl) rfl ?_
      refine v_iconst C dL_forcedByFill_15 (v := nI 1) (by decide) ?_
      exact v_iret C F rfl dL_forcedByFill_16 (by omega) (by omega) (Or.inr ⟨_, u, 0, hp, rfl, rfl, rfl⟩)
    rcases List.mem_cons.mp hz with rfl | hz
    · refine v_catch C T [(0, 10, 13, 20)] 0 10 17 13 [(0, 10, 21, 15)] rfl (fun z hz => by obtain rfl := List.mem_singleton.mp hz; exact ⟨by decide, EIS, cl_L_20, List.mem_of_getElem? (i := 1) rfl⟩) ⟨by decide, by decide⟩ (by decide) cl_L_13 ca_EIO (fun q2 => ?_)
      refine v_astore C dL_forcedByFill_17 rfl (Nat.le_of_ble_eq_true rfl) rfl ?_
      refine v_iconst C dL_forcedByFill_19 (v := nI 2) (by decide) ?_
      exact v_iret C F rfl dL_forcedByFill_20 (by omega) (by omega) (Or.inr ⟨_, u, 1, hp, rfl, rfl, rfl⟩)
    obtain rfl := List.mem_singleton.mp hz
    refine v_catch C T [(0, 10, 13, 20), (0, 10, 17, 13)] 0 10 21 15 [] rfl (fun z hz => (List.mem_cons.mp hz).elim (fun z1 => by rw [z1]; exact ⟨by decide, EIS, cl_L_20, List.mem_of_getElem? (i := 3) rfl⟩) (fun hz => by obtain rfl := List.mem_singleton.mp hz; exact ⟨by decide, EIO, cl_L_13, List.mem_of_getElem? (i := 2) rfl⟩)) ⟨by decide, by decide⟩ (by decide) cl_L_15 ca_EIA (fun q2 => ?_)
    refine v_astore C dL_forcedByFill_21 rfl (Nat.le_of_ble_eq_true rfl) rfl ?_
    refine v_iconst C dL_forcedByFill_23 (v := nI 3) (by decide) ?_
    exact v_iret C F rfl dL_forcedByFill_24 (by omega) (by omega) (Or.inr ⟨_, u, 2, hp, rfl, rfl, rfl⟩)
  · skip
    refine v_i2l C dL_forcedByFill_8 rfl ?_
    refine v_last C aj_l (by decide) 0 (by decide) rfl dL_forcedByFill_9 ?_
    refine v_goto C 25 dL_forcedByFill_10 (by decide) ?_
    refine v_iconst C dL_forcedByFill_25 (v := nI 0) (by decide) ?_
    exact v_iret C F rfl dL_forcedByFill_26 (by omega) (by omega) (Or.inl ⟨r, u, hp, rfl, rfl⟩)
theorem ysh_L_ticksToClear : YsH yL_ticksToClear cL_ticksToClear 3 (some .int) [(0, 8, 11, 20)] 2 := ⟨⟨TT_t 926 (by decide +kernel) (by decide +kernel), TT_t 0 (by decide +kernel) (by decide +kernel), TT_t 927 (by decide +kernel) (by decide +kernel)⟩, by decide +kernel, by decide +kernel, by decide +kernel, by decide⟩
set_option maxHeartbeats 1000000 in
theorem hc_ticksToClear {l : Launch} (hl : l.stackTraces = false) {κ : Kp} {h : Nat → Nat} {c : Cg} {o : Nat → Int64} {dd : Nat → UInt64} {q : G} {dM mc ms : Nat} (hd : dM < 20) (hm : mc ≤ 6) (hs : ms ≤ 36) {post : Int32 → Cg → Prop} {px : String → Cg → Prop} (M : Ct SS MM l κ yX5_ticksToClear cX5_ticksToClear 1 (some FieldType.int) dM mc ms [.ref (h 0)] (cS κ h) c ri post px) (hE : ∀ e u, px e u → e ∈ ([EIS] : List String)) : CtH SS MM l κ yL_ticksToClear cL_ticksToClear 3 (some .int) [(0, 8, 11, 20)] 20 6 36 [.ref (h 0), .ref (h 124)] (lS κ h) (c, o, dd, q) ri (HPo post px [EIS] (fun v c2 => (c2, vp_updL o 0 (cvI v), dd, q)) (fun c2 => (c2, o, dd, q))) (fun _ _ => False) := by
  refine CtH.of (own := RL) (by decide +kernel) rfl hl (by simp [Value.category]) (Nat.le_of_ble_eq_true rfl) (fun X hXl hXK C F T => ?_)
  subst hXK
  subst hXl
  refine v_aload_n C dL_ticksToClear_0 rfl ?_
  refine v_iconst C dL_ticksToClear_1 (v := nI 0) (by decide) ?_
  refine v_aload_n C dL_ticksToClear_2 rfl ?_
  refine v_callVi C M ym_X5_ticksToClear ml_L_119 emb_l_c rfl rfl rfl rfl rfl dL_ticksToClear_3 hd (by omega) (by omega) (Nat.le_of_ble_eq_true rfl) (fun e u hp => ?_) (fun r u hp => ?_)
  · have hz := hE e u hp
    obtain rfl := List.mem_singleton.mp hz
    refine v_catch C T [] 0 8 11 20 [] rfl (fun z hz => by cases hz) ⟨by decide, by decide⟩ (by decide) cl_L_20 ca_EIS (fun q2 => ?_)
    refine v_astore_n C dL_ticksToClear_11 rfl (Nat.le_of_ble_eq_true rfl) rfl ?_
    refine v_iconst C dL_ticksToClear_12 (v := nI 1) (by decide) ?_
    exact v_iret C F rfl dL_ticksToClear_13 (by omega) (by omega) (Or.inr ⟨_, u, 0, hp, rfl, rfl, rfl⟩)
  · skip
    refine v_i2l C dL_ticksToClear_6 rfl ?_
    refine v_last C aj_l (by decide) 0 (by decide) rfl dL_ticksToClear_7 ?_
    refine v_goto C 14 dL_ticksToClear_8 (by decide) ?_
    refine v_iconst C dL_ticksToClear_14 (v := nI 0) (by decide) ?_
    exact v_iret C F rfl dL_ticksToClear_15 (by omega) (by omega) (Or.inl ⟨r, u, hp, rfl, rfl⟩)
theorem ysh_L_owedAfter : YsH yL_owedAfter cL_owedAfter 4 (some .int) [(0, 9, 12, 20), (0, 9, 15, 15)] 3 := ⟨⟨TT_t 937 (by decide +kernel) (by decide +kernel), TT_t 0 (by decide +kernel) (by decide +kernel), TT_t 938 (by decide +kernel) (by decide +kernel)⟩, by decide +kernel, by decide +kernel, by decide +kernel, by decide⟩
set_option maxHeartbeats 1000000 in
theorem hc_owedAfter {l : Launch} (hl : l.stackTraces = false) {κ : Kp} {h : Nat → Nat} {c : Cg} {o : Nat → Int64} {dd : Nat → UInt64} {q : G} {p1 : Int32} {dM mc ms : Nat} (hd : dM < 20) (hm : mc ≤ 6) (hs : ms ≤ 36) {post : Int32 → Cg → Prop} {px : String → Cg → Prop} (M : Ct SS MM l κ yX5_owedAfter cX5_owedAfter 3 (some FieldType.int) dM mc ms [.ref (h 0), .int p1] (cS κ h) c ri post px) (hE : ∀ e u, px e u → e ∈ ([EIS, EIA] : List String)) : CtH SS MM l κ yL_owedAfter cL_owedAfter 4 (some .int) [(0, 9, 12, 20), (0, 9, 15, 15)] 20 6 36 [.ref (h 0), .int p1, .ref (h 124)] (lS κ h) (c, o, dd, q) ri (HPo post px [EIS, EIA] (fun v c2 => (c2, vp_updL o 0 (cvI v), dd, q)) (fun c2 => (c2, o, dd, q))) (fun _ _ => False) := by
  refine CtH.of (own := RL) (by decide +kernel) rfl hl (by simp [Value.category]) (Nat.le_of_ble_eq_true rfl) (fun X hXl hXK C F T => ?_)
  subst hXK
  subst hXl
  refine v_aload_n C dL_owedAfter_0 rfl ?_
  refine v_iconst C dL_owedAfter_1 (v := nI 0) (by decide) ?_
  refine v_aload_n C dL_owedAfter_2 rfl ?_
  refine v_iload_n C dL_owedAfter_3 rfl ?_
  refine v_callVi C M ym_X5_owedAfter ml_L_122 emb_l_c rfl rfl rfl rfl rfl dL_owedAfter_4 hd (by omega) (by omega) (Nat.le_of_ble_eq_true rfl) (fun e u hp => ?_) (fun r u hp => ?_)
  · have hz := hE e u hp
    rcases List.mem_cons.mp hz with rfl | hz
    · refine v_catch C T [] 0 9 12 20 [(0, 9, 15, 15)] rfl (fun z hz => by cases hz) ⟨by decide, by decide⟩ (by decide) cl_L_20 ca_EIS (fun q2 => ?_)
      refine v_astore_n C dL_owedAfter_12 rfl (Nat.le_of_ble_eq_true rfl) rfl ?_
      refine v_iconst C dL_owedAfter_13 (v := nI 1) (by decide) ?_
      exact v_iret C F rfl dL_owedAfter_14 (by omega) (by omega) (Or.inr ⟨_, u, 0, hp, rfl, rfl, rfl⟩)
    obtain rfl := List.mem_singleton.mp hz
    refine v_catch C T [(0, 9, 12, 20)] 0 9 15 15 [] rfl (fun z hz => by obtain rfl := List.mem_singleton.mp hz; exact ⟨by decide, EIS, cl_L_20, List.mem_of_getElem? (i := 3) rfl⟩) ⟨by decide, by decide⟩ (by decide) cl_L_15 ca_EIA (fun q2 => ?_)
    refine v_astore_n C dL_owedAfter_15 rfl (Nat.le_of_ble_eq_true rfl) rfl ?_
    refine v_iconst C dL_owedAfter_16 (v := nI 2) (by decide) ?_
    exact v_iret C F rfl dL_owedAfter_17 (by omega) (by omega) (Or.inr ⟨_, u, 1, hp, rfl, rfl, rfl⟩)
  · skip
    refine v_i2l C dL_owedAfter_7 rfl ?_
    refine v_last C aj_l (by decide) 0 (by decide) rfl dL_owedAfter_8 ?_
    refine v_goto C 18 dL_owedAfter_9 (by decide) ?_
    refine v_iconst C dL_owedAfter_18 (v := nI 0) (by decide) ?_
    exact v_iret C F rfl dL_owedAfter_19 (by omega) (by omega) (Or.inl ⟨r, u, hp, rfl, rfl⟩)
theorem ysh_L_paidIn : YsH yL_paidIn cL_paidIn 4 (some .int) [(0, 9, 12, 20), (0, 9, 15, 13)] 3 := ⟨⟨TT_t 952 (by decide +kernel) (by decide +kernel), TT_t 0 (by decide +kernel) (by decide +kernel), TT_t 953 (by decide +kernel) (by decide +kernel)⟩, by decide +kernel, by decide +kernel, by decide +kernel, by decide⟩
set_option maxHeartbeats 1000000 in
theorem hc_paidIn {l : Launch} (hl : l.stackTraces = false) {κ : Kp} {h : Nat → Nat} {c : Cg} {o : Nat → Int64} {dd : Nat → UInt64} {q : G} {p1 : Int32} {dM mc ms : Nat} (hd : dM < 20) (hm : mc ≤ 6) (hs : ms ≤ 36) {post : Int32 → Cg → Prop} {px : String → Cg → Prop} (M : Ct SS MM l κ yX5_paidIn cX5_paidIn 2 (some FieldType.int) dM mc ms [.ref (h 0), .int p1] (cS κ h) c ri post px) (hE : ∀ e u, px e u → e ∈ ([EIS, EIO] : List String)) : CtH SS MM l κ yL_paidIn cL_paidIn 4 (some .int) [(0, 9, 12, 20), (0, 9, 15, 13)] 20 6 36 [.ref (h 0), .int p1, .ref (h 124)] (lS κ h) (c, o, dd, q) ri (HPo post px [EIS, EIO] (fun v c2 => (c2, vp_updL o 0 (cvI v), dd, q)) (fun c2 => (c2, o, dd, q))) (fun _ _ => False) := by
  refine CtH.of (own := RL) (by decide +kernel) rfl hl (by simp [Value.category]) (Nat.le_of_ble_eq_true rfl) (fun X hXl hXK C F T => ?_)
  subst hXK
  subst hXl
  refine v_aload_n C dL_paidIn_0 rfl ?_
  refine v_iconst C dL_paidIn_1 (v := nI 0) (by decide) ?_
  refine v_aload_n C dL_paidIn_2 rfl ?_
  refine v_iload_n C dL_paidIn_3 rfl ?_
  refine v_callVi C M ym_X5_paidIn ml_L_125 emb_l_c rfl rfl rfl rfl rfl dL_paidIn_4 hd (by omega) (by omega) (Nat.le_of_ble_eq_true rfl) (fun e u hp => ?_) (fun r u hp => ?_)
  · have hz := hE e u hp
    rcases List.mem_cons.mp hz with rfl | hz
    · refine v_catch C T [] 0 9 12 20 [(0, 9, 15, 13)] rfl (fun z hz => by cases hz) ⟨by decide, by decide⟩ (by decide) cl_L_20 ca_EIS (fun q2 => ?_)
      refine v_astore_n C dL_paidIn_12 rfl (Nat.le_of_ble_eq_true rfl) rfl ?_
      refine v_iconst C dL_paidIn_13 (v := nI 1) (by decide) ?_
      exact v_iret C F rfl dL_paidIn_14 (by omega) (by omega) (Or.inr ⟨_, u, 0, hp, rfl, rfl, rfl⟩)
    obtain rfl := List.mem_singleton.mp hz
    refine v_catch C T [(0, 9, 12, 20)] 0 9 15 13 [] rfl (fun z hz => by obtain rfl := List.mem_singleton.mp hz; exact ⟨by decide, EIS, cl_L_20, List.mem_of_getElem? (i := 1) rfl⟩) ⟨by decide, by decide⟩ (by decide) cl_L_13 ca_EIO (fun q2 => ?_)
    refine v_astore_n C dL_paidIn_15 rfl (Nat.le_of_ble_eq_true rfl) rfl ?_
    refine v_iconst C dL_paidIn_16 (v := nI 2) (by decide) ?_
    exact v_iret C F rfl dL_paidIn_17 (by omega) (by omega) (Or.inr ⟨_, u, 1, hp, rfl, rfl, rfl⟩)
  · skip
    refine v_i2l C dL_paidIn_7 rfl ?_
    refine v_last C aj_l (by decide) 0 (by decide) rfl dL_paidIn_8 ?_
    refine v_goto C 18 dL_paidIn_9 (by decide) ?_
    refine v_iconst C dL_paidIn_18 (v := nI 0) (by decide) ?_
    exact v_iret C F rfl dL_paidIn_19 (by omega) (by omega) (Or.inl ⟨r, u, hp, rfl, rfl⟩)
theorem ysh_L_bestPolicy : YsH yL_bestPolicy cL_bestPolicy 3 (some .int) [(0, 8, 11, 20)] 2 := ⟨⟨TT_t 963 (by decide +kernel) (by decide +kernel), TT_t 0 (by decide +kernel) (by decide +kernel), TT_t 964 (by decide +kernel) (by decide +kernel)⟩, by decide +kernel, by decide +kernel, by decide +kernel, by decide⟩
set_option maxHeartbeats 1000000 in
theorem hc_bestPolicy {l : Launch} (hl : l.stackTraces = false) {κ : Kp} {h : Nat → Nat} {c : Cg} {o : Nat → Int64} {dd : Nat → UInt64} {q : G} {dM mc ms : Nat} (hd : dM < 20) (hm : mc ≤ 6) (hs : ms ≤ 36) {post : Int32 → Cg → Prop} {px : String → Cg → Prop} (M : Ct SS MM l κ yX5_bestPolicy cX5_bestPolicy 5 (some FieldType.int) dM mc ms [.ref (h 0)] (cS κ h) c ri post px) (hE : ∀ e u, px e u → e ∈ ([EIS] : List String)) : CtH SS MM l κ yL_bestPolicy cL_bestPolicy 3 (some .int) [(0, 8, 11, 20)] 20 6 36 [.ref (h 0), .ref (h 124)] (lS κ h) (c, o, dd, q) ri (HPo post px [EIS] (fun v c2 => (c2, vp_updL o 0 (cvI v), dd, q)) (fun c2 => (c2, o, dd, q))) (fun _ _ => False) := by
  refine CtH.of (own := RL) (by decide +kernel) rfl hl (by simp [Value.category]) (Nat.le_of_ble_eq_true rfl) (fun X hXl hXK C F T => ?_)
  subst hXK
  subst hXl
  refine v_aload_n C dL_bestPolicy_0 rfl ?_
  refine v_iconst C dL_bestPolicy_1 (v := nI 0) (by decide) ?_
  refine v_aload_n C dL_bestPolicy_2 rfl ?_
  refine v_callVi C M ym_X5_bestPolicy ml_L_128 emb_l_c rfl rfl rfl rfl rfl dL_bestPolicy_3 hd (by omega) (by omega) (Nat.le_of_ble_eq_true rfl) (fun e u hp => ?_) (fun r u hp => ?_)
  · have hz := hE e u hp
    obtain rfl := List.mem_singleton.mp hz
    refine v_catch C T [] 0 8 11 20 [] rfl (fun z hz => by cases hz) ⟨by decide, by decide⟩ (by decide) cl_L_20 ca_EIS (fun q2 => ?_)
    refine v_astore_n C dL_bestPolicy_11 rfl (Nat.le_of_ble_eq_true rfl) rfl ?_
    refine v_iconst C dL_bestPolicy_12 (v := nI 1) (by decide) ?_
    exact v_iret C F rfl dL_bestPolicy_13 (by omega) (by omega) (Or.inr ⟨_, u, 0, hp, rfl, rfl, rfl⟩)
  · skip
    refine v_i2l C dL_bestPolicy_6 rfl ?_
    refine v_last C aj_l (by decide) 0 (by decide) rfl dL_bestPolicy_7 ?_
    refine v_goto C 14 dL_bestPolicy_8 (by decide) ?_
    refine v_iconst C dL_bestPolicy_14 (v := nI 0) (by decide) ?_
    exact v_iret C F rfl dL_bestPolicy_15 (by omega) (by omega) (Or.inl ⟨r, u, hp, rfl, rfl⟩)
theorem ysh_L_account : YsH yL_account cL_account 4 (some .int) [(0, 9, 12, 20), (0, 9, 15, 15)] 3 := ⟨⟨TT_t 979 (by decide +kernel) (by decide +kernel), TT_t 0 (by decide +kernel) (by decide +kernel), TT_t 980 (by decide +kernel) (by decide +kernel)⟩, by decide +kernel, by decide +kernel, by decide +kernel, by decide⟩
set_option maxHeartbeats 1000000 in
theorem hc_account {l : Launch} (hl : l.stackTraces = false) {κ : Kp} {h : Nat → Nat} {c : Cg} {o : Nat → Int64} {dd : Nat → UInt64} {q : G} {p1 : Int32} {dM mc ms : Nat} (hd : dM < 20) (hm : mc ≤ 6) (hs : ms ≤ 36) {post : Int32 → Cg → Prop} {px : String → Cg → Prop} (M : Ct SS MM l κ yX5_account cX5_account 2 (some FieldType.int) dM mc ms [.ref (h 0), .int p1] (cS κ h) c ri post px) (hE : ∀ e u, px e u → e ∈ ([EIS, EIA] : List String)) : CtH SS MM l κ yL_account cL_account 4 (some .int) [(0, 9, 12, 20), (0, 9, 15, 15)] 20 6 36 [.ref (h 0), .int p1, .ref (h 124)] (lS κ h) (c, o, dd, q) ri (HPo post px [EIS, EIA] (fun v c2 => (c2, vp_updL o 0 (cvI v), dd, q)) (fun c2 => (c2, o, dd, q))) (fun _ _ => False) := by
  refine CtH.of (own := RL) (by decide +kernel) rfl hl (by simp [Value.category]) (Nat.le_of_ble_eq_true rfl) (fun X hXl hXK C F T => ?_)
  subst hXK
  subst hXl
  refine v_aload_n C dL_account_0 rfl ?_
  refine v_iconst C dL_account_1 (v := nI 0) (by decide) ?_
  refine v_aload_n C dL_account_2 rfl ?_
  refine v_iload_n C dL_account_3 rfl ?_
  refine v_callVi C M ym_X5_account ml_L_131 emb_l_c rfl rfl rfl rfl rfl dL_account_4 hd (by omega) (by omega) (Nat.le_of_ble_eq_true rfl) (fun e u hp => ?_) (fun r u hp => ?_)
  · have hz := hE e u hp
    rcases List.mem_cons.mp hz with rfl | hz
    · refine v_catch C T [] 0 9 12 20 [(0, 9, 15, 15)] rfl (fun z hz => by cases hz) ⟨by decide, by decide⟩ (by decide) cl_L_20 ca_EIS (fun q2 => ?_)
      refine v_astore_n C dL_account_12 rfl (Nat.le_of_ble_eq_true rfl) rfl ?_
      refine v_iconst C dL_account_13 (v := nI 1) (by decide) ?_
      exact v_iret C F rfl dL_account_14 (by omega) (by omega) (Or.inr ⟨_, u, 0, hp, rfl, rfl, rfl⟩)
    obtain rfl := List.mem_singleton.mp hz
    refine v_catch C T [(0, 9, 12, 20)] 0 9 15 15 [] rfl (fun z hz => by obtain rfl := List.mem_singleton.mp hz; exact ⟨by decide, EIS, cl_L_20, List.mem_of_getElem? (i := 3) rfl⟩) ⟨by decide, by decide⟩ (by decide) cl_L_15 ca_EIA (fun q2 => ?_)
    refine v_astore_n C dL_account_15 rfl (Nat.le_of_ble_eq_true rfl) rfl ?_
    refine v_iconst C dL_account_16 (v := nI 2) (by decide) ?_
    exact v_iret C F rfl dL_account_17 (by omega) (by omega) (Or.inr ⟨_, u, 1, hp, rfl, rfl, rfl⟩)
  · skip
    refine v_i2l C dL_account_7 rfl ?_
    refine v_last C aj_l (by decide) 0 (by decide) rfl dL_account_8 ?_
    refine v_goto C 18 dL_account_9 (by decide) ?_
    refine v_iconst C dL_account_18 (v := nI 0) (by decide) ?_
    exact v_iret C F rfl dL_account_19 (by omega) (by omega) (Or.inl ⟨r, u, hp, rfl, rfl⟩)
theorem ysh_L_meanHops : YsH yL_meanHops cL_meanHops 3 (some .int) [(0, 7, 10, 20)] 2 := ⟨⟨TT_t 986 (by decide +kernel) (by decide +kernel), TT_t 0 (by decide +kernel) (by decide +kernel), TT_t 987 (by decide +kernel) (by decide +kernel)⟩, by decide +kernel, by decide +kernel, by decide +kernel, by decide⟩
set_option maxHeartbeats 1000000 in
theorem hc_meanHops {l : Launch} (hl : l.stackTraces = false) {κ : Kp} {h : Nat → Nat} {c : Cg} {o : Nat → Int64} {dd : Nat → UInt64} {q : G} {dM mc ms : Nat} (hd : dM < 20) (hm : mc ≤ 6) (hs : ms ≤ 36) {post : UInt64 → Cg → Prop} {px : String → Cg → Prop} (M : Ct SS MM l κ yX5_meanHops cX5_meanHops 2 (some FieldType.double) dM mc ms [.ref (h 0)] (cS κ h) c rd8 post px) (hE : ∀ e u, px e u → e ∈ ([EIS] : List String)) : CtH SS MM l κ yL_meanHops cL_meanHops 3 (some .int) [(0, 7, 10, 20)] 20 6 36 [.ref (h 0), .ref (h 125)] (lS κ h) (c, o, dd, q) ri (HPo post px [EIS] (fun v c2 => (c2, o, vf_upd dd 0 (v), q)) (fun c2 => (c2, o, dd, q))) (fun _ _ => False) := by
  refine CtH.of (own := RL) (by decide +kernel) rfl hl (by simp [Value.category]) (Nat.le_of_ble_eq_true rfl) (fun X hXl hXK C F T => ?_)
  subst hXK
  subst hXl
  refine v_aload_n C dL_meanHops_0 rfl ?_
  refine v_iconst C dL_meanHops_1 (v := nI 0) (by decide) ?_
  refine v_aload_n C dL_meanHops_2 rfl ?_
  refine v_callVd C M ym_X5_meanHops ml_L_134 emb_l_c rfl rfl rfl rfl rfl dL_meanHops_3 hd (by omega) (by omega) (Nat.le_of_ble_eq_true rfl) (fun e u hp => ?_) (fun r u hp => ?_)
  · have hz := hE e u hp
    obtain rfl := List.mem_singleton.mp hz
    refine v_catch C T [] 0 7 10 20 [] rfl (fun z hz => by cases hz) ⟨by decide, by decide⟩ (by decide) cl_L_20 ca_EIS (fun q2 => ?_)
    refine v_astore_n C dL_meanHops_10 rfl (Nat.le_of_ble_eq_true rfl) rfl ?_
    refine v_iconst C dL_meanHops_11 (v := nI 1) (by decide) ?_
    exact v_iret C F rfl dL_meanHops_12 (by omega) (by omega) (Or.inr ⟨_, u, 0, hp, rfl, rfl, rfl⟩)
  · skip
    refine v_dast C af_l (by decide) 0 (by decide) rfl dL_meanHops_6 ?_
    refine v_goto C 13 dL_meanHops_7 (by decide) ?_
    refine v_iconst C dL_meanHops_13 (v := nI 0) (by decide) ?_
    exact v_iret C F rfl dL_meanHops_14 (by omega) (by omega) (Or.inl ⟨r, u, hp, rfl, rfl⟩)
theorem ysh_L_idleShare : YsH yL_idleShare cL_idleShare 3 (some .int) [(0, 8, 11, 20)] 2 := ⟨⟨TT_t 993 (by decide +kernel) (by decide +kernel), TT_t 0 (by decide +kernel) (by decide +kernel), TT_t 994 (by decide +kernel) (by decide +kernel)⟩, by decide +kernel, by decide +kernel, by decide +kernel, by decide⟩
set_option maxHeartbeats 1000000 in
theorem hc_idleShare {l : Launch} (hl : l.stackTraces = false) {κ : Kp} {h : Nat → Nat} {c : Cg} {o : Nat → Int64} {dd : Nat → UInt64} {q : G} {dM mc ms : Nat} (hd : dM < 20) (hm : mc ≤ 6) (hs : ms ≤ 36) {post : UInt32 → Cg → Prop} {px : String → Cg → Prop} (M : Ct SS MM l κ yX5_idleShare cX5_idleShare 4 (some FieldType.float) dM mc ms [.ref (h 0)] (cS κ h) c rf4 post px) (hE : ∀ e u, px e u → e ∈ ([EIS] : List String)) (hnan : ∀ v u, post v u → vf_n64 (FP.f2d v)) : CtH SS MM l κ yL_idleShare cL_idleShare 3 (some .int) [(0, 8, 11, 20)] 20 6 36 [.ref (h 0), .ref (h 125)] (lS κ h) (c, o, dd, q) ri (HPo post px [EIS] (fun v c2 => (c2, o, vf_upd dd 0 (FP.f2d v), q)) (fun c2 => (c2, o, dd, q))) (fun _ _ => False) := by
  refine CtH.of (own := RL) (by decide +kernel) rfl hl (by simp [Value.category]) (Nat.le_of_ble_eq_true rfl) (fun X hXl hXK C F T => ?_)
  subst hXK
  subst hXl
  refine v_aload_n C dL_idleShare_0 rfl ?_
  refine v_iconst C dL_idleShare_1 (v := nI 0) (by decide) ?_
  refine v_aload_n C dL_idleShare_2 rfl ?_
  refine v_callVf C M ym_X5_idleShare ml_L_138 emb_l_c rfl rfl rfl rfl rfl dL_idleShare_3 hd (by omega) (by omega) (Nat.le_of_ble_eq_true rfl) (fun e u hp => ?_) (fun r u hp => ?_)
  · have hz := hE e u hp
    obtain rfl := List.mem_singleton.mp hz
    refine v_catch C T [] 0 8 11 20 [] rfl (fun z hz => by cases hz) ⟨by decide, by decide⟩ (by decide) cl_L_20 ca_EIS (fun q2 => ?_)
    refine v_astore_n C dL_idleShare_11 rfl (Nat.le_of_ble_eq_true rfl) rfl ?_
    refine v_iconst C dL_idleShare_12 (v := nI 1) (by decide) ?_
    exact v_iret C F rfl dL_idleShare_13 (by omega) (by omega) (Or.inr ⟨_, u, 0, hp, rfl, rfl, rfl⟩)
  · skip
    refine v_f2d C dL_idleShare_6 (hnan r u hp) ?_
    refine v_dast C af_l (by decide) 0 (by decide) rfl dL_idleShare_7 ?_
    refine v_goto C 14 dL_idleShare_8 (by decide) ?_
    refine v_iconst C dL_idleShare_14 (v := nI 0) (by decide) ?_
    exact v_iret C F rfl dL_idleShare_15 (by omega) (by omega) (Or.inl ⟨r, u, hp, rfl, rfl⟩)
theorem ysh_L_event : YsH yL_event cL_event 5 (some .int) [(0, 10, 13, 20), (0, 10, 17, 13), (0, 10, 21, 15)] 4 := ⟨⟨TT_t 1000 (by decide +kernel) (by decide +kernel), TT_t 0 (by decide +kernel) (by decide +kernel), TT_t 1001 (by decide +kernel) (by decide +kernel)⟩, by decide +kernel, by decide +kernel, by decide +kernel, by decide⟩
set_option maxHeartbeats 1000000 in
theorem hc_event {l : Launch} (hl : l.stackTraces = false) {κ : Kp} {h : Nat → Nat} {c : Cg} {o : Nat → Int64} {dd : Nat → UInt64} {q : G} {p1 p2 : Int32} {dM mc ms : Nat} (hd : dM < 20) (hm : mc ≤ 6) (hs : ms ≤ 36) {post : Int32 → Cg → Prop} {px : String → Cg → Prop} (M : Ct SS MM l κ yX5_event cX5_event 3 (some FieldType.int) dM mc ms [.ref (h 0), .int p1, .int p2] (cS κ h) c ri post px) (hE : ∀ e u, px e u → e ∈ ([EIS, EIO, EIA] : List String)) : CtH SS MM l κ yL_event cL_event 5 (some .int) [(0, 10, 13, 20), (0, 10, 17, 13), (0, 10, 21, 15)] 20 6 36 [.ref (h 0), .int p1, .int p2, .ref (h 124)] (lS κ h) (c, o, dd, q) ri (HPo post px [EIS, EIO, EIA] (fun v c2 => (c2, vp_updL o 0 (cvI v), dd, q)) (fun c2 => (c2, o, dd, q))) (fun _ _ => False) := by
  refine CtH.of (own := RL) (by decide +kernel) rfl hl (by simp [Value.category]) (Nat.le_of_ble_eq_true rfl) (fun X hXl hXK C F T => ?_)
  subst hXK
  subst hXl
  refine v_aload_n C dL_event_0 rfl ?_
  refine v_iconst C dL_event_1 (v := nI 0) (by decide) ?_
  refine v_aload_n C dL_event_2 rfl ?_
  refine v_iload_n C dL_event_3 rfl ?_
  refine v_iload_n C dL_event_4 rfl ?_
  refine v_callVi C M ym_X5_event ml_L_142 emb_l_c rfl rfl rfl rfl rfl dL_event_5 hd (by omega) (by omega) (Nat.le_of_ble_eq_true rfl) (fun e u hp => ?_) (fun r u hp => ?_)
  · have hz := hE e u hp
    rcases List.mem_cons.mp hz with rfl | hz
    · refine v_catch C T [] 0 10 13 20 [(0, 10, 17, 13), (0, 10, 21, 15)] rfl (fun z hz => by cases hz) ⟨by decide, by decide⟩ (by decide) cl_L_20 ca_EIS (fun q2 => ?_)
      refine v_astore C dL_event_13 rfl (Nat.le_of_ble_eq_true rfl) rfl ?_
      refine v_iconst C dL_event_15 (v := nI 1) (by decide) ?_
      exact v_iret C F rfl dL_event_16 (by omega) (by omega) (Or.inr ⟨_, u, 0, hp, rfl, rfl, rfl⟩)
    rcases List.mem_cons.mp hz with rfl | hz
    · refine v_catch C T [(0, 10, 13, 20)] 0 10 17 13 [(0, 10, 21, 15)] rfl (fun z hz => by obtain rfl := List.mem_singleton.mp hz; exact ⟨by decide, EIS, cl_L_20, List.mem_of_getElem? (i := 1) rfl⟩) ⟨by decide, by decide⟩ (by decide) cl_L_13 ca_EIO (fun q2 => ?_)
      refine v_astore C dL_event_17 rfl (Nat.le_of_ble_eq_true rfl) rfl ?_
      refine v_iconst C dL_event_19 (v := nI 2) (by decide) ?_
      exact v_iret C F rfl dL_event_20 (by omega) (by omega) (Or.inr ⟨_, u, 1, hp, rfl, rfl, rfl⟩)
    obtain rfl := List.mem_singleton.mp hz
    refine v_catch C T [(0, 10, 13, 20), (0, 10, 17, 13)] 0 10 21 15 [] rfl (fun z hz => (List.mem_cons.mp hz).elim (fun z1 => by rw [z1]; exact ⟨by decide, EIS, cl_L_20, List.mem_of_getElem? (i := 3) rfl⟩) (fun hz => by obtain rfl := List.mem_singleton.mp hz; exact ⟨by decide, EIO, cl_L_13, List.mem_of_getElem? (i := 2) rfl⟩)) ⟨by decide, by decide⟩ (by decide) cl_L_15 ca_EIA (fun q2 => ?_)
    refine v_astore C dL_event_21 rfl (Nat.le_of_ble_eq_true rfl) rfl ?_
    refine v_iconst C dL_event_23 (v := nI 3) (by decide) ?_
    exact v_iret C F rfl dL_event_24 (by omega) (by omega) (Or.inr ⟨_, u, 2, hp, rfl, rfl, rfl⟩)
  · skip
    refine v_i2l C dL_event_8 rfl ?_
    refine v_last C aj_l (by decide) 0 (by decide) rfl dL_event_9 ?_
    refine v_goto C 25 dL_event_10 (by decide) ?_
    refine v_iconst C dL_event_25 (v := nI 0) (by decide) ?_
    exact v_iret C F rfl dL_event_26 (by omega) (by omega) (Or.inl ⟨r, u, hp, rfl, rfl⟩)
theorem ysh_L_writeDebts : YsH yL_writeDebts cL_writeDebts 3 (some .int) [(0, 8, 11, 20)] 2 := ⟨⟨TT_t 1008 (by decide +kernel) (by decide +kernel), TT_t 0 (by decide +kernel) (by decide +kernel), TT_t 1009 (by decide +kernel) (by decide +kernel)⟩, by decide +kernel, by decide +kernel, by decide +kernel, by decide⟩
set_option maxHeartbeats 1000000 in
theorem hc_writeDebts {l : Launch} (hl : l.stackTraces = false) {κ : Kp} {h : Nat → Nat} {c : Cg} {o : Nat → Int64} {dd : Nat → UInt64} {q : G} {dM mc ms : Nat} (hd : dM < 20) (hm : mc ≤ 6) (hs : ms ≤ 36) {post : Int32 → Cg → Prop} {px : String → Cg → Prop} (M : Ct SS MM l κ yX5_writeDebts cX5_writeDebts 3 (some FieldType.int) dM mc ms [.ref (h 0)] (cS κ h) c ri post px) (hE : ∀ e u, px e u → e ∈ ([EIS] : List String)) : CtH SS MM l κ yL_writeDebts cL_writeDebts 3 (some .int) [(0, 8, 11, 20)] 20 6 36 [.ref (h 0), .ref (h 124)] (lS κ h) (c, o, dd, q) ri (HPo post px [EIS] (fun v c2 => (c2, vp_updL o 0 (cvI v), dd, q)) (fun c2 => (c2, o, dd, q))) (fun _ _ => False) := by
  refine CtH.of (own := RL) (by decide +kernel) rfl hl (by simp [Value.category]) (Nat.le_of_ble_eq_true rfl) (fun X hXl hXK C F T => ?_)
  subst hXK
  subst hXl
  refine v_aload_n C dL_writeDebts_0 rfl ?_
  refine v_iconst C dL_writeDebts_1 (v := nI 0) (by decide) ?_
  refine v_aload_n C dL_writeDebts_2 rfl ?_
  refine v_callVi C M ym_X5_writeDebts ml_L_145 emb_l_c rfl rfl rfl rfl rfl dL_writeDebts_3 hd (by omega) (by omega) (Nat.le_of_ble_eq_true rfl) (fun e u hp => ?_) (fun r u hp => ?_)
  · have hz := hE e u hp
    obtain rfl := List.mem_singleton.mp hz
    refine v_catch C T [] 0 8 11 20 [] rfl (fun z hz => by cases hz) ⟨by decide, by decide⟩ (by decide) cl_L_20 ca_EIS (fun q2 => ?_)
    refine v_astore_n C dL_writeDebts_11 rfl (Nat.le_of_ble_eq_true rfl) rfl ?_
    refine v_iconst C dL_writeDebts_12 (v := nI 1) (by decide) ?_
    exact v_iret C F rfl dL_writeDebts_13 (by omega) (by omega) (Or.inr ⟨_, u, 0, hp, rfl, rfl, rfl⟩)
  · skip
    refine v_i2l C dL_writeDebts_6 rfl ?_
    refine v_last C aj_l (by decide) 0 (by decide) rfl dL_writeDebts_7 ?_
    refine v_goto C 14 dL_writeDebts_8 (by decide) ?_
    refine v_iconst C dL_writeDebts_14 (v := nI 0) (by decide) ?_
    exact v_iret C F rfl dL_writeDebts_15 (by omega) (by omega) (Or.inl ⟨r, u, hp, rfl, rfl⟩)
theorem ysh_L_writeChain : YsH yL_writeChain cL_writeChain 4 (some .int) [(0, 9, 12, 20), (0, 9, 15, 13)] 3 := ⟨⟨TT_t 1032 (by decide +kernel) (by decide +kernel), TT_t 0 (by decide +kernel) (by decide +kernel), TT_t 1033 (by decide +kernel) (by decide +kernel)⟩, by decide +kernel, by decide +kernel, by decide +kernel, by decide⟩
set_option maxHeartbeats 1000000 in
theorem hc_writeChain {l : Launch} (hl : l.stackTraces = false) {κ : Kp} {h : Nat → Nat} {c : Cg} {o : Nat → Int64} {dd : Nat → UInt64} {q : G} {p1 : Int32} {dM mc ms : Nat} (hd : dM < 20) (hm : mc ≤ 6) (hs : ms ≤ 36) {post : Int32 → Cg → Prop} {px : String → Cg → Prop} (M : Ct SS MM l κ yX5_writeChain cX5_writeChain 5 (some FieldType.int) dM mc ms [.ref (h 0), .int p1] (cS κ h) c ri post px) (hE : ∀ e u, px e u → e ∈ ([EIS, EIO] : List String)) : CtH SS MM l κ yL_writeChain cL_writeChain 4 (some .int) [(0, 9, 12, 20), (0, 9, 15, 13)] 20 6 36 [.ref (h 0), .int p1, .ref (h 124)] (lS κ h) (c, o, dd, q) ri (HPo post px [EIS, EIO] (fun v c2 => (c2, vp_updL o 0 (cvI v), dd, q)) (fun c2 => (c2, o, dd, q))) (fun _ _ => False) := by
  refine CtH.of (own := RL) (by decide +kernel) rfl hl (by simp [Value.category]) (Nat.le_of_ble_eq_true rfl) (fun X hXl hXK C F T => ?_)
  subst hXK
  subst hXl
  refine v_aload_n C dL_writeChain_0 rfl ?_
  refine v_iconst C dL_writeChain_1 (v := nI 0) (by decide) ?_
  refine v_aload_n C dL_writeChain_2 rfl ?_
  refine v_iload_n C dL_writeChain_3 rfl ?_
  refine v_callVi C M ym_X5_writeChain ml_L_148 emb_l_c rfl rfl rfl rfl rfl dL_writeChain_4 hd (by omega) (by omega) (Nat.le_of_ble_eq_true rfl) (fun e u hp => ?_) (fun r u hp => ?_)
  · have hz := hE e u hp
    rcases List.mem_cons.mp hz with rfl | hz
    · refine v_catch C T [] 0 9 12 20 [(0, 9, 15, 13)] rfl (fun z hz => by cases hz) ⟨by decide, by decide⟩ (by decide) cl_L_20 ca_EIS (fun q2 => ?_)
      refine v_astore_n C dL_writeChain_12 rfl (Nat.le_of_ble_eq_true rfl) rfl ?_
      refine v_iconst C dL_writeChain_13 (v := nI 1) (by decide) ?_
      exact v_iret C F rfl dL_writeChain_14 (by omega) (by omega) (Or.inr ⟨_, u, 0, hp, rfl, rfl, rfl⟩)
    obtain rfl := List.mem_singleton.mp hz
    refine v_catch C T [(0, 9, 12, 20)] 0 9 15 13 [] rfl (fun z hz => by obtain rfl := List.mem_singleton.mp hz; exact ⟨by decide, EIS, cl_L_20, List.mem_of_getElem? (i := 1) rfl⟩) ⟨by decide, by decide⟩ (by decide) cl_L_13 ca_EIO (fun q2 => ?_)
    refine v_astore_n C dL_writeChain_15 rfl (Nat.le_of_ble_eq_true rfl) rfl ?_
    refine v_iconst C dL_writeChain_16 (v := nI 2) (by decide) ?_
    exact v_iret C F rfl dL_writeChain_17 (by omega) (by omega) (Or.inr ⟨_, u, 1, hp, rfl, rfl, rfl⟩)
  · skip
    refine v_i2l C dL_writeChain_7 rfl ?_
    refine v_last C aj_l (by decide) 0 (by decide) rfl dL_writeChain_8 ?_
    refine v_goto C 18 dL_writeChain_9 (by decide) ?_
    refine v_iconst C dL_writeChain_18 (v := nI 0) (by decide) ?_
    exact v_iret C F rfl dL_writeChain_19 (by omega) (by omega) (Or.inl ⟨r, u, hp, rfl, rfl⟩)
theorem ysh_L_textByte : YsH yL_textByte cL_textByte 4 (some .int) [(0, 9, 12, 13)] 3 := ⟨⟨TT_t 1039 (by decide +kernel) (by decide +kernel), TT_t 0 (by decide +kernel) (by decide +kernel), TT_t 1040 (by decide +kernel) (by decide +kernel)⟩, by decide +kernel, by decide +kernel, by decide +kernel, by decide⟩
set_option maxHeartbeats 1000000 in
theorem hc_textByte {l : Launch} (hl : l.stackTraces = false) {κ : Kp} {h : Nat → Nat} {c : Cg} {o : Nat → Int64} {dd : Nat → UInt64} {q : G} {p1 : Int32} {dM mc ms : Nat} (hd : dM < 20) (hm : mc ≤ 6) (hs : ms ≤ 36) {post : Int32 → Cg → Prop} {px : String → Cg → Prop} (M : Ct SS MM l κ yX5_textByte cX5_textByte 2 (some FieldType.int) dM mc ms [.ref (h 0), .int p1] (cS κ h) c ri post px) (hE : ∀ e u, px e u → e ∈ ([EIO] : List String)) : CtH SS MM l κ yL_textByte cL_textByte 4 (some .int) [(0, 9, 12, 13)] 20 6 36 [.ref (h 0), .int p1, .ref (h 124)] (lS κ h) (c, o, dd, q) ri (HPo post px [EIO] (fun v c2 => (c2, vp_updL o 0 (cvI v), dd, q)) (fun c2 => (c2, o, dd, q))) (fun _ _ => False) := by
  refine CtH.of (own := RL) (by decide +kernel) rfl hl (by simp [Value.category]) (Nat.le_of_ble_eq_true rfl) (fun X hXl hXK C F T => ?_)
  subst hXK
  subst hXl
  refine v_aload_n C dL_textByte_0 rfl ?_
  refine v_iconst C dL_textByte_1 (v := nI 0) (by decide) ?_
  refine v_aload_n C dL_textByte_2 rfl ?_
  refine v_iload_n C dL_textByte_3 rfl ?_
  refine v_callVi C M ym_X5_textByte ml_L_151 emb_l_c rfl rfl rfl rfl rfl dL_textByte_4 hd (by omega) (by omega) (Nat.le_of_ble_eq_true rfl) (fun e u hp => ?_) (fun r u hp => ?_)
  · have hz := hE e u hp
    obtain rfl := List.mem_singleton.mp hz
    refine v_catch C T [] 0 9 12 13 [] rfl (fun z hz => by cases hz) ⟨by decide, by decide⟩ (by decide) cl_L_13 ca_EIO (fun q2 => ?_)
    refine v_astore_n C dL_textByte_12 rfl (Nat.le_of_ble_eq_true rfl) rfl ?_
    refine v_iconst C dL_textByte_13 (v := nI 1) (by decide) ?_
    exact v_iret C F rfl dL_textByte_14 (by omega) (by omega) (Or.inr ⟨_, u, 0, hp, rfl, rfl, rfl⟩)
  · skip
    refine v_i2l C dL_textByte_7 rfl ?_
    refine v_last C aj_l (by decide) 0 (by decide) rfl dL_textByte_8 ?_
    refine v_goto C 15 dL_textByte_9 (by decide) ?_
    refine v_iconst C dL_textByte_15 (v := nI 0) (by decide) ?_
    exact v_iret C F rfl dL_textByte_16 (by omega) (by omega) (Or.inl ⟨r, u, hp, rfl, rfl⟩)
theorem ysh_L_copy : YsH yL_copy cL_copy 6 (some .int) [(0, 12, 15, 20), (0, 12, 19, 15)] 5 := ⟨⟨TT_t 1047 (by decide +kernel) (by decide +kernel), TT_t 0 (by decide +kernel) (by decide +kernel), TT_t 1048 (by decide +kernel) (by decide +kernel)⟩, by decide +kernel, by decide +kernel, by decide +kernel, by decide⟩
set_option maxHeartbeats 1000000 in
theorem hc_copy {l : Launch} (hl : l.stackTraces = false) {κ : Kp} {h : Nat → Nat} {c : Cg} {o : Nat → Int64} {dd : Nat → UInt64} {q : G} {p1 p2 p3 : Int32} {dM mc ms : Nat} (hd : dM < 20) (hm : mc ≤ 6) (hs : ms ≤ 36) {post : Int32 → Cg → Prop} {px : String → Cg → Prop} (M : Ct SS MM l κ yX5_copy cX5_copy 4 (some FieldType.int) dM mc ms [.ref (h 0), .int p1, .int p2, .int p3] (cS κ h) c ri post px) (hE : ∀ e u, px e u → e ∈ ([EIS, EIA] : List String)) : CtH SS MM l κ yL_copy cL_copy 6 (some .int) [(0, 12, 15, 20), (0, 12, 19, 15)] 20 6 36 [.ref (h 0), .int p1, .int p2, .int p3, .ref (h 124)] (lS κ h) (c, o, dd, q) ri (HPo post px [EIS, EIA] (fun v c2 => (c2, vp_updL o 0 (cvI v), dd, q)) (fun c2 => (c2, o, dd, q))) (fun _ _ => False) := by
  refine CtH.of (own := RL) (by decide +kernel) rfl hl (by simp [Value.category]) (Nat.le_of_ble_eq_true rfl) (fun X hXl hXK C F T => ?_)
  subst hXK
  subst hXl
  refine v_aload C dL_copy_0 rfl ?_
  refine v_iconst C dL_copy_2 (v := nI 0) (by decide) ?_
  refine v_aload_n C dL_copy_3 rfl ?_
  refine v_iload_n C dL_copy_4 rfl ?_
  refine v_iload_n C dL_copy_5 rfl ?_
  refine v_iload_n C dL_copy_6 rfl ?_
  refine v_callVi C M ym_X5_copy ml_L_154 emb_l_c rfl rfl rfl rfl rfl dL_copy_7 hd (by omega) (by omega) (Nat.le_of_ble_eq_true rfl) (fun e u hp => ?_) (fun r u hp => ?_)
  · have hz := hE e u hp
    rcases List.mem_cons.mp hz with rfl | hz
    · refine v_catch C T [] 0 12 15 20 [(0, 12, 19, 15)] rfl (fun z hz => by cases hz) ⟨by decide, by decide⟩ (by decide) cl_L_20 ca_EIS (fun q2 => ?_)
      refine v_astore C dL_copy_15 rfl (Nat.le_of_ble_eq_true rfl) rfl ?_
      refine v_iconst C dL_copy_17 (v := nI 1) (by decide) ?_
      exact v_iret C F rfl dL_copy_18 (by omega) (by omega) (Or.inr ⟨_, u, 0, hp, rfl, rfl, rfl⟩)
    obtain rfl := List.mem_singleton.mp hz
    refine v_catch C T [(0, 12, 15, 20)] 0 12 19 15 [] rfl (fun z hz => by obtain rfl := List.mem_singleton.mp hz; exact ⟨by decide, EIS, cl_L_20, List.mem_of_getElem? (i := 3) rfl⟩) ⟨by decide, by decide⟩ (by decide) cl_L_15 ca_EIA (fun q2 => ?_)
    refine v_astore C dL_copy_19 rfl (Nat.le_of_ble_eq_true rfl) rfl ?_
    refine v_iconst C dL_copy_21 (v := nI 2) (by decide) ?_
    exact v_iret C F rfl dL_copy_22 (by omega) (by omega) (Or.inr ⟨_, u, 1, hp, rfl, rfl, rfl⟩)
  · skip
    refine v_i2l C dL_copy_10 rfl ?_
    refine v_last C aj_l (by decide) 0 (by decide) rfl dL_copy_11 ?_
    refine v_goto C 23 dL_copy_12 (by decide) ?_
    refine v_iconst C dL_copy_23 (v := nI 0) (by decide) ?_
    exact v_iret C F rfl dL_copy_24 (by omega) (by omega) (Or.inl ⟨r, u, hp, rfl, rfl⟩)
theorem ysh_L_write : YsH yL_write cL_write 5 (some .int) [(0, 10, 13, 20), (0, 10, 17, 13), (0, 10, 21, 15)] 4 := ⟨⟨TT_t 1060 (by decide +kernel) (by decide +kernel), TT_t 0 (by decide +kernel) (by decide +kernel), TT_t 1061 (by decide +kernel) (by decide +kernel)⟩, by decide +kernel, by decide +kernel, by decide +kernel, by decide⟩
set_option maxHeartbeats 1000000 in
theorem hc_write {l : Launch} (hl : l.stackTraces = false) {κ : Kp} {h : Nat → Nat} {c : Cg} {o : Nat → Int64} {dd : Nat → UInt64} {q : G} {p1 p2 : Int32} {dM mc ms : Nat} (hd : dM < 20) (hm : mc ≤ 6) (hs : ms ≤ 36) {post : Int32 → Cg → Prop} {px : String → Cg → Prop} (M : Ct SS MM l κ yX5_write cX5_write 3 (some FieldType.int) dM mc ms [.ref (h 0), .int p1, .int p2] (cS κ h) c ri post px) (hE : ∀ e u, px e u → e ∈ ([EIS, EIO, EIA] : List String)) : CtH SS MM l κ yL_write cL_write 5 (some .int) [(0, 10, 13, 20), (0, 10, 17, 13), (0, 10, 21, 15)] 20 6 36 [.ref (h 0), .int p1, .int p2, .ref (h 124)] (lS κ h) (c, o, dd, q) ri (HPo post px [EIS, EIO, EIA] (fun v c2 => (c2, vp_updL o 0 (cvI v), dd, q)) (fun c2 => (c2, o, dd, q))) (fun _ _ => False) := by
  refine CtH.of (own := RL) (by decide +kernel) rfl hl (by simp [Value.category]) (Nat.le_of_ble_eq_true rfl) (fun X hXl hXK C F T => ?_)
  subst hXK
  subst hXl
  refine v_aload_n C dL_write_0 rfl ?_
  refine v_iconst C dL_write_1 (v := nI 0) (by decide) ?_
  refine v_aload_n C dL_write_2 rfl ?_
  refine v_iload_n C dL_write_3 rfl ?_
  refine v_iload_n C dL_write_4 rfl ?_
  refine v_callVi C M ym_X5_write ml_L_157 emb_l_c rfl rfl rfl rfl rfl dL_write_5 hd (by omega) (by omega) (Nat.le_of_ble_eq_true rfl) (fun e u hp => ?_) (fun r u hp => ?_)
  · have hz := hE e u hp
    rcases List.mem_cons.mp hz with rfl | hz
    · refine v_catch C T [] 0 10 13 20 [(0, 10, 17, 13), (0, 10, 21, 15)] rfl (fun z hz => by cases hz) ⟨by decide, by decide⟩ (by decide) cl_L_20 ca_EIS (fun q2 => ?_)
      refine v_astore C dL_write_13 rfl (Nat.le_of_ble_eq_true rfl) rfl ?_
      refine v_iconst C dL_write_15 (v := nI 1) (by decide) ?_
      exact v_iret C F rfl dL_write_16 (by omega) (by omega) (Or.inr ⟨_, u, 0, hp, rfl, rfl, rfl⟩)
    rcases List.mem_cons.mp hz with rfl | hz
    · refine v_catch C T [(0, 10, 13, 20)] 0 10 17 13 [(0, 10, 21, 15)] rfl (fun z hz => by obtain rfl := List.mem_singleton.mp hz; exact ⟨by decide, EIS, cl_L_20, List.mem_of_getElem? (i := 1) rfl⟩) ⟨by decide, by decide⟩ (by decide) cl_L_13 ca_EIO (fun q2 => ?_)
      refine v_astore C dL_write_17 rfl (Nat.le_of_ble_eq_true rfl) rfl ?_
      refine v_iconst C dL_write_19 (v := nI 2) (by decide) ?_
      exact v_iret C F rfl dL_write_20 (by omega) (by omega) (Or.inr ⟨_, u, 1, hp, rfl, rfl, rfl⟩)
    obtain rfl := List.mem_singleton.mp hz
    refine v_catch C T [(0, 10, 13, 20), (0, 10, 17, 13)] 0 10 21 15 [] rfl (fun z hz => (List.mem_cons.mp hz).elim (fun z1 => by rw [z1]; exact ⟨by decide, EIS, cl_L_20, List.mem_of_getElem? (i := 3) rfl⟩) (fun hz => by obtain rfl := List.mem_singleton.mp hz; exact ⟨by decide, EIO, cl_L_13, List.mem_of_getElem? (i := 2) rfl⟩)) ⟨by decide, by decide⟩ (by decide) cl_L_15 ca_EIA (fun q2 => ?_)
    refine v_astore C dL_write_21 rfl (Nat.le_of_ble_eq_true rfl) rfl ?_
    refine v_iconst C dL_write_23 (v := nI 3) (by decide) ?_
    exact v_iret C F rfl dL_write_24 (by omega) (by omega) (Or.inr ⟨_, u, 2, hp, rfl, rfl, rfl⟩)
  · skip
    refine v_i2l C dL_write_8 rfl ?_
    refine v_last C aj_l (by decide) 0 (by decide) rfl dL_write_9 ?_
    refine v_goto C 25 dL_write_10 (by decide) ?_
    refine v_iconst C dL_write_25 (v := nI 0) (by decide) ?_
    exact v_iret C F rfl dL_write_26 (by omega) (by omega) (Or.inl ⟨r, u, hp, rfl, rfl⟩)
theorem ysh_L_fill : YsH yL_fill cL_fill 6 (some .int) [(0, 12, 15, 20), (0, 12, 19, 13), (0, 12, 23, 15)] 5 := ⟨⟨TT_t 1067 (by decide +kernel) (by decide +kernel), TT_t 0 (by decide +kernel) (by decide +kernel), TT_t 1068 (by decide +kernel) (by decide +kernel)⟩, by decide +kernel, by decide +kernel, by decide +kernel, by decide⟩
set_option maxHeartbeats 1000000 in
theorem hc_fill {l : Launch} (hl : l.stackTraces = false) {κ : Kp} {h : Nat → Nat} {c : Cg} {o : Nat → Int64} {dd : Nat → UInt64} {q : G} {p1 p2 p3 : Int32} {dM mc ms : Nat} (hd : dM < 20) (hm : mc ≤ 6) (hs : ms ≤ 36) {post : Int32 → Cg → Prop} {px : String → Cg → Prop} (M : Ct SS MM l κ yX5_fill cX5_fill 4 (some FieldType.int) dM mc ms [.ref (h 0), .int p1, .int p2, .int p3] (cS κ h) c ri post px) (hE : ∀ e u, px e u → e ∈ ([EIS, EIO, EIA] : List String)) : CtH SS MM l κ yL_fill cL_fill 6 (some .int) [(0, 12, 15, 20), (0, 12, 19, 13), (0, 12, 23, 15)] 20 6 36 [.ref (h 0), .int p1, .int p2, .int p3, .ref (h 124)] (lS κ h) (c, o, dd, q) ri (HPo post px [EIS, EIO, EIA] (fun v c2 => (c2, vp_updL o 0 (cvI v), dd, q)) (fun c2 => (c2, o, dd, q))) (fun _ _ => False) := by
  refine CtH.of (own := RL) (by decide +kernel) rfl hl (by simp [Value.category]) (Nat.le_of_ble_eq_true rfl) (fun X hXl hXK C F T => ?_)
  subst hXK
  subst hXl
  refine v_aload C dL_fill_0 rfl ?_
  refine v_iconst C dL_fill_2 (v := nI 0) (by decide) ?_
  refine v_aload_n C dL_fill_3 rfl ?_
  refine v_iload_n C dL_fill_4 rfl ?_
  refine v_iload_n C dL_fill_5 rfl ?_
  refine v_iload_n C dL_fill_6 rfl ?_
  refine v_callVi C M ym_X5_fill ml_L_160 emb_l_c rfl rfl rfl rfl rfl dL_fill_7 hd (by omega) (by omega) (Nat.le_of_ble_eq_true rfl) (fun e u hp => ?_) (fun r u hp => ?_)
  · have hz := hE e u hp
    rcases List.mem_cons.mp hz with rfl | hz
    · refine v_catch C T [] 0 12 15 20 [(0, 12, 19, 13), (0, 12, 23, 15)] rfl (fun z hz => by cases hz) ⟨by decide, by decide⟩ (by decide) cl_L_20 ca_EIS (fun q2 => ?_)
      refine v_astore C dL_fill_15 rfl (Nat.le_of_ble_eq_true rfl) rfl ?_
      refine v_iconst C dL_fill_17 (v := nI 1) (by decide) ?_
      exact v_iret C F rfl dL_fill_18 (by omega) (by omega) (Or.inr ⟨_, u, 0, hp, rfl, rfl, rfl⟩)
    rcases List.mem_cons.mp hz with rfl | hz
    · refine v_catch C T [(0, 12, 15, 20)] 0 12 19 13 [(0, 12, 23, 15)] rfl (fun z hz => by obtain rfl := List.mem_singleton.mp hz; exact ⟨by decide, EIS, cl_L_20, List.mem_of_getElem? (i := 1) rfl⟩) ⟨by decide, by decide⟩ (by decide) cl_L_13 ca_EIO (fun q2 => ?_)
      refine v_astore C dL_fill_19 rfl (Nat.le_of_ble_eq_true rfl) rfl ?_
      refine v_iconst C dL_fill_21 (v := nI 2) (by decide) ?_
      exact v_iret C F rfl dL_fill_22 (by omega) (by omega) (Or.inr ⟨_, u, 1, hp, rfl, rfl, rfl⟩)
    obtain rfl := List.mem_singleton.mp hz
    refine v_catch C T [(0, 12, 15, 20), (0, 12, 19, 13)] 0 12 23 15 [] rfl (fun z hz => (List.mem_cons.mp hz).elim (fun z1 => by rw [z1]; exact ⟨by decide, EIS, cl_L_20, List.mem_of_getElem? (i := 3) rfl⟩) (fun hz => by obtain rfl := List.mem_singleton.mp hz; exact ⟨by decide, EIO, cl_L_13, List.mem_of_getElem? (i := 2) rfl⟩)) ⟨by decide, by decide⟩ (by decide) cl_L_15 ca_EIA (fun q2 => ?_)
    refine v_astore C dL_fill_23 rfl (Nat.le_of_ble_eq_true rfl) rfl ?_
    refine v_iconst C dL_fill_25 (v := nI 3) (by decide) ?_
    exact v_iret C F rfl dL_fill_26 (by omega) (by omega) (Or.inr ⟨_, u, 2, hp, rfl, rfl, rfl⟩)
  · skip
    refine v_i2l C dL_fill_10 rfl ?_
    refine v_last C aj_l (by decide) 0 (by decide) rfl dL_fill_11 ?_
    refine v_goto C 27 dL_fill_12 (by decide) ?_
    refine v_iconst C dL_fill_27 (v := nI 0) (by decide) ?_
    exact v_iret C F rfl dL_fill_28 (by omega) (by omega) (Or.inl ⟨r, u, hp, rfl, rfl⟩)
theorem ysh_L_exchange : YsH yL_exchange cL_exchange 5 (some .int) [(0, 10, 13, 20), (0, 10, 17, 13), (0, 10, 21, 15)] 4 := ⟨⟨TT_t 1074 (by decide +kernel) (by decide +kernel), TT_t 0 (by decide +kernel) (by decide +kernel), TT_t 1075 (by decide +kernel) (by decide +kernel)⟩, by decide +kernel, by decide +kernel, by decide +kernel, by decide⟩
set_option maxHeartbeats 1000000 in
theorem hc_exchange {l : Launch} (hl : l.stackTraces = false) {κ : Kp} {h : Nat → Nat} {c : Cg} {o : Nat → Int64} {dd : Nat → UInt64} {q : G} {p1 p2 : Int32} {dM mc ms : Nat} (hd : dM < 20) (hm : mc ≤ 6) (hs : ms ≤ 36) {post : Int32 → Cg → Prop} {px : String → Cg → Prop} (M : Ct SS MM l κ yX5_exchange cX5_exchange 3 (some FieldType.int) dM mc ms [.ref (h 0), .int p1, .int p2] (cS κ h) c ri post px) (hE : ∀ e u, px e u → e ∈ ([EIS, EIO, EIA] : List String)) : CtH SS MM l κ yL_exchange cL_exchange 5 (some .int) [(0, 10, 13, 20), (0, 10, 17, 13), (0, 10, 21, 15)] 20 6 36 [.ref (h 0), .int p1, .int p2, .ref (h 124)] (lS κ h) (c, o, dd, q) ri (HPo post px [EIS, EIO, EIA] (fun v c2 => (c2, vp_updL o 0 (cvI v), dd, q)) (fun c2 => (c2, o, dd, q))) (fun _ _ => False) := by
  refine CtH.of (own := RL) (by decide +kernel) rfl hl (by simp [Value.category]) (Nat.le_of_ble_eq_true rfl) (fun X hXl hXK C F T => ?_)
  subst hXK
  subst hXl
  refine v_aload_n C dL_exchange_0 rfl ?_
  refine v_iconst C dL_exchange_1 (v := nI 0) (by decide) ?_
  refine v_aload_n C dL_exchange_2 rfl ?_
  refine v_iload_n C dL_exchange_3 rfl ?_
  refine v_iload_n C dL_exchange_4 rfl ?_
  refine v_callVi C M ym_X5_exchange ml_L_163 emb_l_c rfl rfl rfl rfl rfl dL_exchange_5 hd (by omega) (by omega) (Nat.le_of_ble_eq_true rfl) (fun e u hp => ?_) (fun r u hp => ?_)
  · have hz := hE e u hp
    rcases List.mem_cons.mp hz with rfl | hz
    · refine v_catch C T [] 0 10 13 20 [(0, 10, 17, 13), (0, 10, 21, 15)] rfl (fun z hz => by cases hz) ⟨by decide, by decide⟩ (by decide) cl_L_20 ca_EIS (fun q2 => ?_)
      refine v_astore C dL_exchange_13 rfl (Nat.le_of_ble_eq_true rfl) rfl ?_
      refine v_iconst C dL_exchange_15 (v := nI 1) (by decide) ?_
      exact v_iret C F rfl dL_exchange_16 (by omega) (by omega) (Or.inr ⟨_, u, 0, hp, rfl, rfl, rfl⟩)
    rcases List.mem_cons.mp hz with rfl | hz
    · refine v_catch C T [(0, 10, 13, 20)] 0 10 17 13 [(0, 10, 21, 15)] rfl (fun z hz => by obtain rfl := List.mem_singleton.mp hz; exact ⟨by decide, EIS, cl_L_20, List.mem_of_getElem? (i := 1) rfl⟩) ⟨by decide, by decide⟩ (by decide) cl_L_13 ca_EIO (fun q2 => ?_)
      refine v_astore C dL_exchange_17 rfl (Nat.le_of_ble_eq_true rfl) rfl ?_
      refine v_iconst C dL_exchange_19 (v := nI 2) (by decide) ?_
      exact v_iret C F rfl dL_exchange_20 (by omega) (by omega) (Or.inr ⟨_, u, 1, hp, rfl, rfl, rfl⟩)
    obtain rfl := List.mem_singleton.mp hz
    refine v_catch C T [(0, 10, 13, 20), (0, 10, 17, 13)] 0 10 21 15 [] rfl (fun z hz => (List.mem_cons.mp hz).elim (fun z1 => by rw [z1]; exact ⟨by decide, EIS, cl_L_20, List.mem_of_getElem? (i := 3) rfl⟩) (fun hz => by obtain rfl := List.mem_singleton.mp hz; exact ⟨by decide, EIO, cl_L_13, List.mem_of_getElem? (i := 2) rfl⟩)) ⟨by decide, by decide⟩ (by decide) cl_L_15 ca_EIA (fun q2 => ?_)
    refine v_astore C dL_exchange_21 rfl (Nat.le_of_ble_eq_true rfl) rfl ?_
    refine v_iconst C dL_exchange_23 (v := nI 3) (by decide) ?_
    exact v_iret C F rfl dL_exchange_24 (by omega) (by omega) (Or.inr ⟨_, u, 2, hp, rfl, rfl, rfl⟩)
  · skip
    refine v_i2l C dL_exchange_8 rfl ?_
    refine v_last C aj_l (by decide) 0 (by decide) rfl dL_exchange_9 ?_
    refine v_goto C 25 dL_exchange_10 (by decide) ?_
    refine v_iconst C dL_exchange_25 (v := nI 0) (by decide) ?_
    exact v_iret C F rfl dL_exchange_26 (by omega) (by omega) (Or.inl ⟨r, u, hp, rfl, rfl⟩)
theorem ysh_L_move : YsH yL_move cL_move 6 (some .int) [(0, 12, 15, 20), (0, 12, 19, 15)] 5 := ⟨⟨TT_t 1086 (by decide +kernel) (by decide +kernel), TT_t 0 (by decide +kernel) (by decide +kernel), TT_t 1087 (by decide +kernel) (by decide +kernel)⟩, by decide +kernel, by decide +kernel, by decide +kernel, by decide⟩
set_option maxHeartbeats 1000000 in
theorem hc_move {l : Launch} (hl : l.stackTraces = false) {κ : Kp} {h : Nat → Nat} {c : Cg} {o : Nat → Int64} {dd : Nat → UInt64} {q : G} {p1 p2 p3 : Int32} {dM mc ms : Nat} (hd : dM < 20) (hm : mc ≤ 6) (hs : ms ≤ 36) {post : Int32 → Cg → Prop} {px : String → Cg → Prop} (M : Ct SS MM l κ yX5_move cX5_move 8 (some FieldType.int) dM mc ms [.ref (h 0), .int p1, .int p2, .int p3] (cS κ h) c ri post px) (hE : ∀ e u, px e u → e ∈ ([EIS, EIA] : List String)) : CtH SS MM l κ yL_move cL_move 6 (some .int) [(0, 12, 15, 20), (0, 12, 19, 15)] 20 6 36 [.ref (h 0), .int p1, .int p2, .int p3, .ref (h 124)] (lS κ h) (c, o, dd, q) ri (HPo post px [EIS, EIA] (fun v c2 => (c2, vp_updL o 0 (cvI v), dd, q)) (fun c2 => (c2, o, dd, q))) (fun _ _ => False) := by
  refine CtH.of (own := RL) (by decide +kernel) rfl hl (by simp [Value.category]) (Nat.le_of_ble_eq_true rfl) (fun X hXl hXK C F T => ?_)
  subst hXK
  subst hXl
  refine v_aload C dL_move_0 rfl ?_
  refine v_iconst C dL_move_2 (v := nI 0) (by decide) ?_
  refine v_aload_n C dL_move_3 rfl ?_
  refine v_iload_n C dL_move_4 rfl ?_
  refine v_iload_n C dL_move_5 rfl ?_
  refine v_iload_n C dL_move_6 rfl ?_
  refine v_callVi C M ym_X5_move ml_L_166 emb_l_c rfl rfl rfl rfl rfl dL_move_7 hd (by omega) (by omega) (Nat.le_of_ble_eq_true rfl) (fun e u hp => ?_) (fun r u hp => ?_)
  · have hz := hE e u hp
    rcases List.mem_cons.mp hz with rfl | hz
    · refine v_catch C T [] 0 12 15 20 [(0, 12, 19, 15)] rfl (fun z hz => by cases hz) ⟨by decide, by decide⟩ (by decide) cl_L_20 ca_EIS (fun q2 => ?_)
      refine v_astore C dL_move_15 rfl (Nat.le_of_ble_eq_true rfl) rfl ?_
      refine v_iconst C dL_move_17 (v := nI 1) (by decide) ?_
      exact v_iret C F rfl dL_move_18 (by omega) (by omega) (Or.inr ⟨_, u, 0, hp, rfl, rfl, rfl⟩)
    obtain rfl := List.mem_singleton.mp hz
    refine v_catch C T [(0, 12, 15, 20)] 0 12 19 15 [] rfl (fun z hz => by obtain rfl := List.mem_singleton.mp hz; exact ⟨by decide, EIS, cl_L_20, List.mem_of_getElem? (i := 3) rfl⟩) ⟨by decide, by decide⟩ (by decide) cl_L_15 ca_EIA (fun q2 => ?_)
    refine v_astore C dL_move_19 rfl (Nat.le_of_ble_eq_true rfl) rfl ?_
    refine v_iconst C dL_move_21 (v := nI 2) (by decide) ?_
    exact v_iret C F rfl dL_move_22 (by omega) (by omega) (Or.inr ⟨_, u, 1, hp, rfl, rfl, rfl⟩)
  · skip
    refine v_i2l C dL_move_10 rfl ?_
    refine v_last C aj_l (by decide) 0 (by decide) rfl dL_move_11 ?_
    refine v_goto C 23 dL_move_12 (by decide) ?_
    refine v_iconst C dL_move_23 (v := nI 0) (by decide) ?_
    exact v_iret C F rfl dL_move_24 (by omega) (by omega) (Or.inl ⟨r, u, hp, rfl, rfl⟩)
theorem ysh_L_fetch : YsH yL_fetch cL_fetch 4 (some .int) [(0, 9, 12, 20), (0, 9, 15, 13)] 3 := ⟨⟨TT_t 1094 (by decide +kernel) (by decide +kernel), TT_t 0 (by decide +kernel) (by decide +kernel), TT_t 1095 (by decide +kernel) (by decide +kernel)⟩, by decide +kernel, by decide +kernel, by decide +kernel, by decide⟩
set_option maxHeartbeats 1000000 in
theorem hc_fetch {l : Launch} (hl : l.stackTraces = false) {κ : Kp} {h : Nat → Nat} {c : Cg} {o : Nat → Int64} {dd : Nat → UInt64} {q : G} {p1 : Int32} {dM mc ms : Nat} (hd : dM < 20) (hm : mc ≤ 6) (hs : ms ≤ 36) {post : Int32 → Cg → Prop} {px : String → Cg → Prop} (M : Ct SS MM l κ yX5_fetch cX5_fetch 2 (some FieldType.int) dM mc ms [.ref (h 0), .int p1] (cS κ h) c ri post px) (hE : ∀ e u, px e u → e ∈ ([EIS, EIO] : List String)) : CtH SS MM l κ yL_fetch cL_fetch 4 (some .int) [(0, 9, 12, 20), (0, 9, 15, 13)] 20 6 36 [.ref (h 0), .int p1, .ref (h 124)] (lS κ h) (c, o, dd, q) ri (HPo post px [EIS, EIO] (fun v c2 => (c2, vp_updL o 0 (cvI v), dd, q)) (fun c2 => (c2, o, dd, q))) (fun _ _ => False) := by
  refine CtH.of (own := RL) (by decide +kernel) rfl hl (by simp [Value.category]) (Nat.le_of_ble_eq_true rfl) (fun X hXl hXK C F T => ?_)
  subst hXK
  subst hXl
  refine v_aload_n C dL_fetch_0 rfl ?_
  refine v_iconst C dL_fetch_1 (v := nI 0) (by decide) ?_
  refine v_aload_n C dL_fetch_2 rfl ?_
  refine v_iload_n C dL_fetch_3 rfl ?_
  refine v_callVi C M ym_X5_fetch ml_L_169 emb_l_c rfl rfl rfl rfl rfl dL_fetch_4 hd (by omega) (by omega) (Nat.le_of_ble_eq_true rfl) (fun e u hp => ?_) (fun r u hp => ?_)
  · have hz := hE e u hp
    rcases List.mem_cons.mp hz with rfl | hz
    · refine v_catch C T [] 0 9 12 20 [(0, 9, 15, 13)] rfl (fun z hz => by cases hz) ⟨by decide, by decide⟩ (by decide) cl_L_20 ca_EIS (fun q2 => ?_)
      refine v_astore_n C dL_fetch_12 rfl (Nat.le_of_ble_eq_true rfl) rfl ?_
      refine v_iconst C dL_fetch_13 (v := nI 1) (by decide) ?_
      exact v_iret C F rfl dL_fetch_14 (by omega) (by omega) (Or.inr ⟨_, u, 0, hp, rfl, rfl, rfl⟩)
    obtain rfl := List.mem_singleton.mp hz
    refine v_catch C T [(0, 9, 12, 20)] 0 9 15 13 [] rfl (fun z hz => by obtain rfl := List.mem_singleton.mp hz; exact ⟨by decide, EIS, cl_L_20, List.mem_of_getElem? (i := 1) rfl⟩) ⟨by decide, by decide⟩ (by decide) cl_L_13 ca_EIO (fun q2 => ?_)
    refine v_astore_n C dL_fetch_15 rfl (Nat.le_of_ble_eq_true rfl) rfl ?_
    refine v_iconst C dL_fetch_16 (v := nI 2) (by decide) ?_
    exact v_iret C F rfl dL_fetch_17 (by omega) (by omega) (Or.inr ⟨_, u, 1, hp, rfl, rfl, rfl⟩)
  · skip
    refine v_i2l C dL_fetch_7 rfl ?_
    refine v_last C aj_l (by decide) 0 (by decide) rfl dL_fetch_8 ?_
    refine v_goto C 18 dL_fetch_9 (by decide) ?_
    refine v_iconst C dL_fetch_18 (v := nI 0) (by decide) ?_
    exact v_iret C F rfl dL_fetch_19 (by omega) (by omega) (Or.inl ⟨r, u, hp, rfl, rfl⟩)
theorem ysh_L_tick : YsH yL_tick cL_tick 4 (some .int) [(0, 9, 12, 20), (0, 9, 15, 15)] 3 := ⟨⟨TT_t 1106 (by decide +kernel) (by decide +kernel), TT_t 0 (by decide +kernel) (by decide +kernel), TT_t 1107 (by decide +kernel) (by decide +kernel)⟩, by decide +kernel, by decide +kernel, by decide +kernel, by decide⟩
set_option maxHeartbeats 1000000 in
theorem hc_tick {l : Launch} (hl : l.stackTraces = false) {κ : Kp} {h : Nat → Nat} {c : Cg} {o : Nat → Int64} {dd : Nat → UInt64} {q : G} {p1 : Int32} {dM mc ms : Nat} (hd : dM < 20) (hm : mc ≤ 6) (hs : ms ≤ 36) {post : Int32 → Cg → Prop} {px : String → Cg → Prop} (M : Ct SS MM l κ yX5_tick cX5_tick 2 (some FieldType.int) dM mc ms [.ref (h 0), .int p1] (cS κ h) c ri post px) (hE : ∀ e u, px e u → e ∈ ([EIS, EIA] : List String)) : CtH SS MM l κ yL_tick cL_tick 4 (some .int) [(0, 9, 12, 20), (0, 9, 15, 15)] 20 6 36 [.ref (h 0), .int p1, .ref (h 124)] (lS κ h) (c, o, dd, q) ri (HPo post px [EIS, EIA] (fun v c2 => (c2, vp_updL o 0 (cvI v), dd, q)) (fun c2 => (c2, o, dd, q))) (fun _ _ => False) := by
  refine CtH.of (own := RL) (by decide +kernel) rfl hl (by simp [Value.category]) (Nat.le_of_ble_eq_true rfl) (fun X hXl hXK C F T => ?_)
  subst hXK
  subst hXl
  refine v_aload_n C dL_tick_0 rfl ?_
  refine v_iconst C dL_tick_1 (v := nI 0) (by decide) ?_
  refine v_aload_n C dL_tick_2 rfl ?_
  refine v_iload_n C dL_tick_3 rfl ?_
  refine v_callVi C M ym_X5_tick ml_L_172 emb_l_c rfl rfl rfl rfl rfl dL_tick_4 hd (by omega) (by omega) (Nat.le_of_ble_eq_true rfl) (fun e u hp => ?_) (fun r u hp => ?_)
  · have hz := hE e u hp
    rcases List.mem_cons.mp hz with rfl | hz
    · refine v_catch C T [] 0 9 12 20 [(0, 9, 15, 15)] rfl (fun z hz => by cases hz) ⟨by decide, by decide⟩ (by decide) cl_L_20 ca_EIS (fun q2 => ?_)
      refine v_astore_n C dL_tick_12 rfl (Nat.le_of_ble_eq_true rfl) rfl ?_
      refine v_iconst C dL_tick_13 (v := nI 1) (by decide) ?_
      exact v_iret C F rfl dL_tick_14 (by omega) (by omega) (Or.inr ⟨_, u, 0, hp, rfl, rfl, rfl⟩)
    obtain rfl := List.mem_singleton.mp hz
    refine v_catch C T [(0, 9, 12, 20)] 0 9 15 15 [] rfl (fun z hz => by obtain rfl := List.mem_singleton.mp hz; exact ⟨by decide, EIS, cl_L_20, List.mem_of_getElem? (i := 3) rfl⟩) ⟨by decide, by decide⟩ (by decide) cl_L_15 ca_EIA (fun q2 => ?_)
    refine v_astore_n C dL_tick_15 rfl (Nat.le_of_ble_eq_true rfl) rfl ?_
    refine v_iconst C dL_tick_16 (v := nI 2) (by decide) ?_
    exact v_iret C F rfl dL_tick_17 (by omega) (by omega) (Or.inr ⟨_, u, 1, hp, rfl, rfl, rfl⟩)
  · skip
    refine v_i2l C dL_tick_7 rfl ?_
    refine v_last C aj_l (by decide) 0 (by decide) rfl dL_tick_8 ?_
    refine v_goto C 18 dL_tick_9 (by decide) ?_
    refine v_iconst C dL_tick_18 (v := nI 0) (by decide) ?_
    exact v_iret C F rfl dL_tick_19 (by omega) (by omega) (Or.inl ⟨r, u, hp, rfl, rfl⟩)
theorem ysh_L_payRange : YsH yL_payRange cL_payRange 5 (some .int) [(0, 10, 13, 20), (0, 10, 17, 13), (0, 10, 21, 15)] 4 := ⟨⟨TT_t 1113 (by decide +kernel) (by decide +kernel), TT_t 0 (by decide +kernel) (by decide +kernel), TT_t 1114 (by decide +kernel) (by decide +kernel)⟩, by decide +kernel, by decide +kernel, by decide +kernel, by decide⟩
set_option maxHeartbeats 1000000 in
theorem hc_payRange {l : Launch} (hl : l.stackTraces = false) {κ : Kp} {h : Nat → Nat} {c : Cg} {o : Nat → Int64} {dd : Nat → UInt64} {q : G} {p1 p2 : Int32} {dM mc ms : Nat} (hd : dM < 20) (hm : mc ≤ 6) (hs : ms ≤ 36) {post : Int32 → Cg → Prop} {px : String → Cg → Prop} (M : Ct SS MM l κ yX5_payRange cX5_payRange 3 (some FieldType.int) dM mc ms [.ref (h 0), .int p1, .int p2] (cS κ h) c ri post px) (hE : ∀ e u, px e u → e ∈ ([EIS, EIO, EIA] : List String)) : CtH SS MM l κ yL_payRange cL_payRange 5 (some .int) [(0, 10, 13, 20), (0, 10, 17, 13), (0, 10, 21, 15)] 20 6 36 [.ref (h 0), .int p1, .int p2, .ref (h 124)] (lS κ h) (c, o, dd, q) ri (HPo post px [EIS, EIO, EIA] (fun v c2 => (c2, vp_updL o 0 (cvI v), dd, q)) (fun c2 => (c2, o, dd, q))) (fun _ _ => False) := by
  refine CtH.of (own := RL) (by decide +kernel) rfl hl (by simp [Value.category]) (Nat.le_of_ble_eq_true rfl) (fun X hXl hXK C F T => ?_)
  subst hXK
  subst hXl
  refine v_aload_n C dL_payRange_0 rfl ?_
  refine v_iconst C dL_payRange_1 (v := nI 0) (by decide) ?_
  refine v_aload_n C dL_payRange_2 rfl ?_
  refine v_iload_n C dL_payRange_3 rfl ?_
  refine v_iload_n C dL_payRange_4 rfl ?_
  refine v_callVi C M ym_X5_payRange ml_L_175 emb_l_c rfl rfl rfl rfl rfl dL_payRange_5 hd (by omega) (by omega) (Nat.le_of_ble_eq_true rfl) (fun e u hp => ?_) (fun r u hp => ?_)
  · have hz := hE e u hp
    rcases List.mem_cons.mp hz with rfl | hz
    · refine v_catch C T [] 0 10 13 20 [(0, 10, 17, 13), (0, 10, 21, 15)] rfl (fun z hz => by cases hz) ⟨by decide, by decide⟩ (by decide) cl_L_20 ca_EIS (fun q2 => ?_)
      refine v_astore C dL_payRange_13 rfl (Nat.le_of_ble_eq_true rfl) rfl ?_
      refine v_iconst C dL_payRange_15 (v := nI 1) (by decide) ?_
      exact v_iret C F rfl dL_payRange_16 (by omega) (by omega) (Or.inr ⟨_, u, 0, hp, rfl, rfl, rfl⟩)
    rcases List.mem_cons.mp hz with rfl | hz
    · refine v_catch C T [(0, 10, 13, 20)] 0 10 17 13 [(0, 10, 21, 15)] rfl (fun z hz => by obtain rfl := List.mem_singleton.mp hz; exact ⟨by decide, EIS, cl_L_20, List.mem_of_getElem? (i := 1) rfl⟩) ⟨by decide, by decide⟩ (by decide) cl_L_13 ca_EIO (fun q2 => ?_)
      refine v_astore C dL_payRange_17 rfl (Nat.le_of_ble_eq_true rfl) rfl ?_
      refine v_iconst C dL_payRange_19 (v := nI 2) (by decide) ?_
      exact v_iret C F rfl dL_payRange_20 (by omega) (by omega) (Or.inr ⟨_, u, 1, hp, rfl, rfl, rfl⟩)
    obtain rfl := List.mem_singleton.mp hz
    refine v_catch C T [(0, 10, 13, 20), (0, 10, 17, 13)] 0 10 21 15 [] rfl (fun z hz => (List.mem_cons.mp hz).elim (fun z1 => by rw [z1]; exact ⟨by decide, EIS, cl_L_20, List.mem_of_getElem? (i := 3) rfl⟩) (fun hz => by obtain rfl := List.mem_singleton.mp hz; exact ⟨by decide, EIO, cl_L_13, List.mem_of_getElem? (i := 2) rfl⟩)) ⟨by decide, by decide⟩ (by decide) cl_L_15 ca_EIA (fun q2 => ?_)
    refine v_astore C dL_payRange_21 rfl (Nat.le_of_ble_eq_true rfl) rfl ?_
    refine v_iconst C dL_payRange_23 (v := nI 3) (by decide) ?_
    exact v_iret C F rfl dL_payRange_24 (by omega) (by omega) (Or.inr ⟨_, u, 2, hp, rfl, rfl, rfl⟩)
  · skip
    refine v_i2l C dL_payRange_8 rfl ?_
    refine v_last C aj_l (by decide) 0 (by decide) rfl dL_payRange_9 ?_
    refine v_goto C 25 dL_payRange_10 (by decide) ?_
    refine v_iconst C dL_payRange_25 (v := nI 0) (by decide) ?_
    exact v_iret C F rfl dL_payRange_26 (by omega) (by omega) (Or.inl ⟨r, u, hp, rfl, rfl⟩)
theorem ysh_L_shorten : YsH yL_shorten cL_shorten 4 (some .int) [(0, 9, 12, 20), (0, 9, 15, 13), (0, 9, 18, 15)] 3 := ⟨⟨TT_t 1121 (by decide +kernel) (by decide +kernel), TT_t 0 (by decide +kernel) (by decide +kernel), TT_t 1122 (by decide +kernel) (by decide +kernel)⟩, by decide +kernel, by decide +kernel, by decide +kernel, by decide⟩
set_option maxHeartbeats 1000000 in
theorem hc_shorten {l : Launch} (hl : l.stackTraces = false) {κ : Kp} {h : Nat → Nat} {c : Cg} {o : Nat → Int64} {dd : Nat → UInt64} {q : G} {p1 : Int32} {dM mc ms : Nat} (hd : dM < 20) (hm : mc ≤ 6) (hs : ms ≤ 36) {post : Int32 → Cg → Prop} {px : String → Cg → Prop} (M : Ct SS MM l κ yX5_shorten cX5_shorten 3 (some FieldType.int) dM mc ms [.ref (h 0), .int p1] (cS κ h) c ri post px) (hE : ∀ e u, px e u → e ∈ ([EIS, EIO, EIA] : List String)) : CtH SS MM l κ yL_shorten cL_shorten 4 (some .int) [(0, 9, 12, 20), (0, 9, 15, 13), (0, 9, 18, 15)] 20 6 36 [.ref (h 0), .int p1, .ref (h 124)] (lS κ h) (c, o, dd, q) ri (HPo post px [EIS, EIO, EIA] (fun v c2 => (c2, vp_updL o 0 (cvI v), dd, q)) (fun c2 => (c2, o, dd, q))) (fun _ _ => False) := by
  refine CtH.of (own := RL) (by decide +kernel) rfl hl (by simp [Value.category]) (Nat.le_of_ble_eq_true rfl) (fun X hXl hXK C F T => ?_)
  subst hXK
  subst hXl
  refine v_aload_n C dL_shorten_0 rfl ?_
  refine v_iconst C dL_shorten_1 (v := nI 0) (by decide) ?_
  refine v_aload_n C dL_shorten_2 rfl ?_
  refine v_iload_n C dL_shorten_3 rfl ?_
  refine v_callVi C M ym_X5_shorten ml_L_178 emb_l_c rfl rfl rfl rfl rfl dL_shorten_4 hd (by omega) (by omega) (Nat.le_of_ble_eq_true rfl) (fun e u hp => ?_) (fun r u hp => ?_)
  · have hz := hE e u hp
    rcases List.mem_cons.mp hz with rfl | hz
    · refine v_catch C T [] 0 9 12 20 [(0, 9, 15, 13), (0, 9, 18, 15)] rfl (fun z hz => by cases hz) ⟨by decide, by decide⟩ (by decide) cl_L_20 ca_EIS (fun q2 => ?_)
      refine v_astore_n C dL_shorten_12 rfl (Nat.le_of_ble_eq_true rfl) rfl ?_
      refine v_iconst C dL_shorten_13 (v := nI 1) (by decide) ?_
      exact v_iret C F rfl dL_shorten_14 (by omega) (by omega) (Or.inr ⟨_, u, 0, hp, rfl, rfl, rfl⟩)
    rcases List.mem_cons.mp hz with rfl | hz
    · refine v_catch C T [(0, 9, 12, 20)] 0 9 15 13 [(0, 9, 18, 15)] rfl (fun z hz => by obtain rfl := List.mem_singleton.mp hz; exact ⟨by decide, EIS, cl_L_20, List.mem_of_getElem? (i := 1) rfl⟩) ⟨by decide, by decide⟩ (by decide) cl_L_13 ca_EIO (fun q2 => ?_)
      refine v_astore_n C dL_shorten_15 rfl (Nat.le_of_ble_eq_true rfl) rfl ?_
      refine v_iconst C dL_shorten_16 (v := nI 2) (by decide) ?_
      exact v_iret C F rfl dL_shorten_17 (by omega) (by omega) (Or.inr ⟨_, u, 1, hp, rfl, rfl, rfl⟩)
    obtain rfl := List.mem_singleton.mp hz
    refine v_catch C T [(0, 9, 12, 20), (0, 9, 15, 13)] 0 9 18 15 [] rfl (fun z hz => (List.mem_cons.mp hz).elim (fun z1 => by rw [z1]; exact ⟨by decide, EIS, cl_L_20, List.mem_of_getElem? (i := 3) rfl⟩) (fun hz => by obtain rfl := List.mem_singleton.mp hz; exact ⟨by decide, EIO, cl_L_13, List.mem_of_getElem? (i := 2) rfl⟩)) ⟨by decide, by decide⟩ (by decide) cl_L_15 ca_EIA (fun q2 => ?_)
    refine v_astore_n C dL_shorten_18 rfl (Nat.le_of_ble_eq_true rfl) rfl ?_
    refine v_iconst C dL_shorten_19 (v := nI 3) (by decide) ?_
    exact v_iret C F rfl dL_shorten_20 (by omega) (by omega) (Or.inr ⟨_, u, 2, hp, rfl, rfl, rfl⟩)
  · skip
    refine v_i2l C dL_shorten_7 rfl ?_
    refine v_last C aj_l (by decide) 0 (by decide) rfl dL_shorten_8 ?_
    refine v_goto C 21 dL_shorten_9 (by decide) ?_
    refine v_iconst C dL_shorten_21 (v := nI 0) (by decide) ?_
    exact v_iret C F rfl dL_shorten_22 (by omega) (by omega) (Or.inl ⟨r, u, hp, rfl, rfl⟩)
theorem ysh_L_setLock : YsH yL_setLock cL_setLock 5 (some .int) [(0, 10, 13, 20), (0, 10, 17, 13)] 4 := ⟨⟨TT_t 1129 (by decide +kernel) (by decide +kernel), TT_t 0 (by decide +kernel) (by decide +kernel), TT_t 1130 (by decide +kernel) (by decide +kernel)⟩, by decide +kernel, by decide +kernel, by decide +kernel, by decide⟩
set_option maxHeartbeats 1000000 in
theorem hc_setLock {l : Launch} (hl : l.stackTraces = false) {κ : Kp} {h : Nat → Nat} {c : Cg} {o : Nat → Int64} {dd : Nat → UInt64} {q : G} {p1 p2 : Int32} {dM mc ms : Nat} (hd : dM < 20) (hm : mc ≤ 6) (hs : ms ≤ 36) {post : Int32 → Cg → Prop} {px : String → Cg → Prop} (M : Ct SS MM l κ yX5_setLock cX5_setLock 3 (some FieldType.int) dM mc ms [.ref (h 0), .int p1, .int p2] (cS κ h) c ri post px) (hE : ∀ e u, px e u → e ∈ ([EIS, EIO] : List String)) : CtH SS MM l κ yL_setLock cL_setLock 5 (some .int) [(0, 10, 13, 20), (0, 10, 17, 13)] 20 6 36 [.ref (h 0), .int p1, .int p2, .ref (h 124)] (lS κ h) (c, o, dd, q) ri (HPo post px [EIS, EIO] (fun v c2 => (c2, vp_updL o 0 (cvI v), dd, q)) (fun c2 => (c2, o, dd, q))) (fun _ _ => False) := by
  refine CtH.of (own := RL) (by decide +kernel) rfl hl (by simp [Value.category]) (Nat.le_of_ble_eq_true rfl) (fun X hXl hXK C F T => ?_)
  subst hXK
  subst hXl
  refine v_aload_n C dL_setLock_0 rfl ?_
  refine v_iconst C dL_setLock_1 (v := nI 0) (by decide) ?_
  refine v_aload_n C dL_setLock_2 rfl ?_
  refine v_iload_n C dL_setLock_3 rfl ?_
  refine v_iload_n C dL_setLock_4 rfl ?_
  refine v_callVi C M ym_X5_setLock ml_L_181 emb_l_c rfl rfl rfl rfl rfl dL_setLock_5 hd (by omega) (by omega) (Nat.le_of_ble_eq_true rfl) (fun e u hp => ?_) (fun r u hp => ?_)
  · have hz := hE e u hp
    rcases List.mem_cons.mp hz with rfl | hz
    · refine v_catch C T [] 0 10 13 20 [(0, 10, 17, 13)] rfl (fun z hz => by cases hz) ⟨by decide, by decide⟩ (by decide) cl_L_20 ca_EIS (fun q2 => ?_)
      refine v_astore C dL_setLock_13 rfl (Nat.le_of_ble_eq_true rfl) rfl ?_
      refine v_iconst C dL_setLock_15 (v := nI 1) (by decide) ?_
      exact v_iret C F rfl dL_setLock_16 (by omega) (by omega) (Or.inr ⟨_, u, 0, hp, rfl, rfl, rfl⟩)
    obtain rfl := List.mem_singleton.mp hz
    refine v_catch C T [(0, 10, 13, 20)] 0 10 17 13 [] rfl (fun z hz => by obtain rfl := List.mem_singleton.mp hz; exact ⟨by decide, EIS, cl_L_20, List.mem_of_getElem? (i := 1) rfl⟩) ⟨by decide, by decide⟩ (by decide) cl_L_13 ca_EIO (fun q2 => ?_)
    refine v_astore C dL_setLock_17 rfl (Nat.le_of_ble_eq_true rfl) rfl ?_
    refine v_iconst C dL_setLock_19 (v := nI 2) (by decide) ?_
    exact v_iret C F rfl dL_setLock_20 (by omega) (by omega) (Or.inr ⟨_, u, 1, hp, rfl, rfl, rfl⟩)
  · skip
    refine v_i2l C dL_setLock_8 rfl ?_
    refine v_last C aj_l (by decide) 0 (by decide) rfl dL_setLock_9 ?_
    refine v_goto C 21 dL_setLock_10 (by decide) ?_
    refine v_iconst C dL_setLock_21 (v := nI 0) (by decide) ?_
    exact v_iret C F rfl dL_setLock_22 (by omega) (by omega) (Or.inl ⟨r, u, hp, rfl, rfl⟩)
theorem ysh_L_setSetting : YsH yL_setSetting cL_setSetting 5 (some .int) [(0, 10, 13, 20), (0, 10, 17, 15)] 4 := ⟨⟨TT_t 1137 (by decide +kernel) (by decide +kernel), TT_t 0 (by decide +kernel) (by decide +kernel), TT_t 1138 (by decide +kernel) (by decide +kernel)⟩, by decide +kernel, by decide +kernel, by decide +kernel, by decide⟩
set_option maxHeartbeats 1000000 in
theorem hc_setSetting {l : Launch} (hl : l.stackTraces = false) {κ : Kp} {h : Nat → Nat} {c : Cg} {o : Nat → Int64} {dd : Nat → UInt64} {q : G} {p1 p2 : Int32} {dM mc ms : Nat} (hd : dM < 20) (hm : mc ≤ 6) (hs : ms ≤ 36) {post : Int32 → Cg → Prop} {px : String → Cg → Prop} (M : Ct SS MM l κ yX5_setSetting cX5_setSetting 4 (some FieldType.int) dM mc ms [.ref (h 0), .int p1, .int p2] (cS κ h) c ri post px) (hE : ∀ e u, px e u → e ∈ ([EIS, EIA] : List String)) : CtH SS MM l κ yL_setSetting cL_setSetting 5 (some .int) [(0, 10, 13, 20), (0, 10, 17, 15)] 20 6 36 [.ref (h 0), .int p1, .int p2, .ref (h 124)] (lS κ h) (c, o, dd, q) ri (HPo post px [EIS, EIA] (fun v c2 => (c2, vp_updL o 0 (cvI v), dd, q)) (fun c2 => (c2, o, dd, q))) (fun _ _ => False) := by
  refine CtH.of (own := RL) (by decide +kernel) rfl hl (by simp [Value.category]) (Nat.le_of_ble_eq_true rfl) (fun X hXl hXK C F T => ?_)
  subst hXK
  subst hXl
  refine v_aload_n C dL_setSetting_0 rfl ?_
  refine v_iconst C dL_setSetting_1 (v := nI 0) (by decide) ?_
  refine v_aload_n C dL_setSetting_2 rfl ?_
  refine v_iload_n C dL_setSetting_3 rfl ?_
  refine v_iload_n C dL_setSetting_4 rfl ?_
  refine v_callVi C M ym_X5_setSetting ml_L_184 emb_l_c rfl rfl rfl rfl rfl dL_setSetting_5 hd (by omega) (by omega) (Nat.le_of_ble_eq_true rfl) (fun e u hp => ?_) (fun r u hp => ?_)
  · have hz := hE e u hp
    rcases List.mem_cons.mp hz with rfl | hz
    · refine v_catch C T [] 0 10 13 20 [(0, 10, 17, 15)] rfl (fun z hz => by cases hz) ⟨by decide, by decide⟩ (by decide) cl_L_20 ca_EIS (fun q2 => ?_)
      refine v_astore C dL_setSetting_13 rfl (Nat.le_of_ble_eq_true rfl) rfl ?_
      refine v_iconst C dL_setSetting_15 (v := nI 1) (by decide) ?_
      exact v_iret C F rfl dL_setSetting_16 (by omega) (by omega) (Or.inr ⟨_, u, 0, hp, rfl, rfl, rfl⟩)
    obtain rfl := List.mem_singleton.mp hz
    refine v_catch C T [(0, 10, 13, 20)] 0 10 17 15 [] rfl (fun z hz => by obtain rfl := List.mem_singleton.mp hz; exact ⟨by decide, EIS, cl_L_20, List.mem_of_getElem? (i := 3) rfl⟩) ⟨by decide, by decide⟩ (by decide) cl_L_15 ca_EIA (fun q2 => ?_)
    refine v_astore C dL_setSetting_17 rfl (Nat.le_of_ble_eq_true rfl) rfl ?_
    refine v_iconst C dL_setSetting_19 (v := nI 2) (by decide) ?_
    exact v_iret C F rfl dL_setSetting_20 (by omega) (by omega) (Or.inr ⟨_, u, 1, hp, rfl, rfl, rfl⟩)
  · skip
    refine v_i2l C dL_setSetting_8 rfl ?_
    refine v_last C aj_l (by decide) 0 (by decide) rfl dL_setSetting_9 ?_
    refine v_goto C 21 dL_setSetting_10 (by decide) ?_
    refine v_iconst C dL_setSetting_21 (v := nI 0) (by decide) ?_
    exact v_iret C F rfl dL_setSetting_22 (by omega) (by omega) (Or.inl ⟨r, u, hp, rfl, rfl⟩)
theorem ysh_L_undo : YsH yL_undo cL_undo 3 (some .int) [(0, 8, 11, 20)] 2 := ⟨⟨TT_t 1152 (by decide +kernel) (by decide +kernel), TT_t 0 (by decide +kernel) (by decide +kernel), TT_t 1153 (by decide +kernel) (by decide +kernel)⟩, by decide +kernel, by decide +kernel, by decide +kernel, by decide⟩
set_option maxHeartbeats 1000000 in
theorem hc_undo {l : Launch} (hl : l.stackTraces = false) {κ : Kp} {h : Nat → Nat} {c : Cg} {o : Nat → Int64} {dd : Nat → UInt64} {q : G} {dM mc ms : Nat} (hd : dM < 20) (hm : mc ≤ 6) (hs : ms ≤ 36) {post : Int32 → Cg → Prop} {px : String → Cg → Prop} (M : Ct SS MM l κ yX5_undo cX5_undo 1 (some FieldType.int) dM mc ms [.ref (h 0)] (cS κ h) c ri post px) (hE : ∀ e u, px e u → e ∈ ([EIS] : List String)) : CtH SS MM l κ yL_undo cL_undo 3 (some .int) [(0, 8, 11, 20)] 20 6 36 [.ref (h 0), .ref (h 124)] (lS κ h) (c, o, dd, q) ri (HPo post px [EIS] (fun v c2 => (c2, vp_updL o 0 (cvI v), dd, q)) (fun c2 => (c2, o, dd, q))) (fun _ _ => False) := by
  refine CtH.of (own := RL) (by decide +kernel) rfl hl (by simp [Value.category]) (Nat.le_of_ble_eq_true rfl) (fun X hXl hXK C F T => ?_)
  subst hXK
  subst hXl
  refine v_aload_n C dL_undo_0 rfl ?_
  refine v_iconst C dL_undo_1 (v := nI 0) (by decide) ?_
  refine v_aload_n C dL_undo_2 rfl ?_
  refine v_callVi C M ym_X5_undo ml_L_187 emb_l_c rfl rfl rfl rfl rfl dL_undo_3 hd (by omega) (by omega) (Nat.le_of_ble_eq_true rfl) (fun e u hp => ?_) (fun r u hp => ?_)
  · have hz := hE e u hp
    obtain rfl := List.mem_singleton.mp hz
    refine v_catch C T [] 0 8 11 20 [] rfl (fun z hz => by cases hz) ⟨by decide, by decide⟩ (by decide) cl_L_20 ca_EIS (fun q2 => ?_)
    refine v_astore_n C dL_undo_11 rfl (Nat.le_of_ble_eq_true rfl) rfl ?_
    refine v_iconst C dL_undo_12 (v := nI 1) (by decide) ?_
    exact v_iret C F rfl dL_undo_13 (by omega) (by omega) (Or.inr ⟨_, u, 0, hp, rfl, rfl, rfl⟩)
  · skip
    refine v_i2l C dL_undo_6 rfl ?_
    refine v_last C aj_l (by decide) 0 (by decide) rfl dL_undo_7 ?_
    refine v_goto C 14 dL_undo_8 (by decide) ?_
    refine v_iconst C dL_undo_14 (v := nI 0) (by decide) ?_
    exact v_iret C F rfl dL_undo_15 (by omega) (by omega) (Or.inl ⟨r, u, hp, rfl, rfl⟩)
theorem ysh_L_save : YsH yL_save cL_save 4 (some .int) [(0, 9, 12, 20), (0, 9, 15, 13)] 3 := ⟨⟨TT_t 1164 (by decide +kernel) (by decide +kernel), TT_t 0 (by decide +kernel) (by decide +kernel), TT_t 1165 (by decide +kernel) (by decide +kernel)⟩, by decide +kernel, by decide +kernel, by decide +kernel, by decide⟩
set_option maxHeartbeats 1000000 in
theorem hc_save {l : Launch} (hl : l.stackTraces = false) {κ : Kp} {h : Nat → Nat} {c : Cg} {o : Nat → Int64} {dd : Nat → UInt64} {q : G} {p1 : Int32} {dM mc ms : Nat} (hd : dM < 20) (hm : mc ≤ 6) (hs : ms ≤ 36) {post : Int32 → Cg → Prop} {px : String → Cg → Prop} (M : Ct SS MM l κ yX5_save cX5_save 2 (some FieldType.int) dM mc ms [.ref (h 0), .int p1] (cS κ h) c ri post px) (hE : ∀ e u, px e u → e ∈ ([EIS, EIO] : List String)) : CtH SS MM l κ yL_save cL_save 4 (some .int) [(0, 9, 12, 20), (0, 9, 15, 13)] 20 6 36 [.ref (h 0), .int p1, .ref (h 124)] (lS κ h) (c, o, dd, q) ri (HPo post px [EIS, EIO] (fun v c2 => (c2, vp_updL o 0 (cvI v), dd, q)) (fun c2 => (c2, o, dd, q))) (fun _ _ => False) := by
  refine CtH.of (own := RL) (by decide +kernel) rfl hl (by simp [Value.category]) (Nat.le_of_ble_eq_true rfl) (fun X hXl hXK C F T => ?_)
  subst hXK
  subst hXl
  refine v_aload_n C dL_save_0 rfl ?_
  refine v_iconst C dL_save_1 (v := nI 0) (by decide) ?_
  refine v_aload_n C dL_save_2 rfl ?_
  refine v_iload_n C dL_save_3 rfl ?_
  refine v_callVi C M ym_X5_save ml_L_190 emb_l_c rfl rfl rfl rfl rfl dL_save_4 hd (by omega) (by omega) (Nat.le_of_ble_eq_true rfl) (fun e u hp => ?_) (fun r u hp => ?_)
  · have hz := hE e u hp
    rcases List.mem_cons.mp hz with rfl | hz
    · refine v_catch C T [] 0 9 12 20 [(0, 9, 15, 13)] rfl (fun z hz => by cases hz) ⟨by decide, by decide⟩ (by decide) cl_L_20 ca_EIS (fun q2 => ?_)
      refine v_astore_n C dL_save_12 rfl (Nat.le_of_ble_eq_true rfl) rfl ?_
      refine v_iconst C dL_save_13 (v := nI 1) (by decide) ?_
      exact v_iret C F rfl dL_save_14 (by omega) (by omega) (Or.inr ⟨_, u, 0, hp, rfl, rfl, rfl⟩)
    obtain rfl := List.mem_singleton.mp hz
    refine v_catch C T [(0, 9, 12, 20)] 0 9 15 13 [] rfl (fun z hz => by obtain rfl := List.mem_singleton.mp hz; exact ⟨by decide, EIS, cl_L_20, List.mem_of_getElem? (i := 1) rfl⟩) ⟨by decide, by decide⟩ (by decide) cl_L_13 ca_EIO (fun q2 => ?_)
    refine v_astore_n C dL_save_15 rfl (Nat.le_of_ble_eq_true rfl) rfl ?_
    refine v_iconst C dL_save_16 (v := nI 2) (by decide) ?_
    exact v_iret C F rfl dL_save_17 (by omega) (by omega) (Or.inr ⟨_, u, 1, hp, rfl, rfl, rfl⟩)
  · skip
    refine v_i2l C dL_save_7 rfl ?_
    refine v_last C aj_l (by decide) 0 (by decide) rfl dL_save_8 ?_
    refine v_goto C 18 dL_save_9 (by decide) ?_
    refine v_iconst C dL_save_18 (v := nI 0) (by decide) ?_
    exact v_iret C F rfl dL_save_19 (by omega) (by omega) (Or.inl ⟨r, u, hp, rfl, rfl⟩)
theorem ysh_L_restore : YsH yL_restore cL_restore 4 (some .int) [(0, 9, 12, 13), (0, 9, 15, 20)] 3 := ⟨⟨TT_t 1176 (by decide +kernel) (by decide +kernel), TT_t 0 (by decide +kernel) (by decide +kernel), TT_t 1177 (by decide +kernel) (by decide +kernel)⟩, by decide +kernel, by decide +kernel, by decide +kernel, by decide⟩
set_option maxHeartbeats 1000000 in
theorem hc_restore {l : Launch} (hl : l.stackTraces = false) {κ : Kp} {h : Nat → Nat} {c : Cg} {o : Nat → Int64} {dd : Nat → UInt64} {q : G} {p1 : Int32} {dM mc ms : Nat} (hd : dM < 20) (hm : mc ≤ 6) (hs : ms ≤ 36) {post : Int32 → Cg → Prop} {px : String → Cg → Prop} (M : Ct SS MM l κ yX5_restore cX5_restore 2 (some FieldType.int) dM mc ms [.ref (h 0), .int p1] (cS κ h) c ri post px) (hE : ∀ e u, px e u → e ∈ ([EIO, EIS] : List String)) : CtH SS MM l κ yL_restore cL_restore 4 (some .int) [(0, 9, 12, 13), (0, 9, 15, 20)] 20 6 36 [.ref (h 0), .int p1, .ref (h 124)] (lS κ h) (c, o, dd, q) ri (HPo post px [EIO, EIS] (fun v c2 => (c2, vp_updL o 0 (cvI v), dd, q)) (fun c2 => (c2, o, dd, q))) (fun _ _ => False) := by
  refine CtH.of (own := RL) (by decide +kernel) rfl hl (by simp [Value.category]) (Nat.le_of_ble_eq_true rfl) (fun X hXl hXK C F T => ?_)
  subst hXK
  subst hXl
  refine v_aload_n C dL_restore_0 rfl ?_
  refine v_iconst C dL_restore_1 (v := nI 0) (by decide) ?_
  refine v_aload_n C dL_restore_2 rfl ?_
  refine v_iload_n C dL_restore_3 rfl ?_
  refine v_callVi C M ym_X5_restore ml_L_193 emb_l_c rfl rfl rfl rfl rfl dL_restore_4 hd (by omega) (by omega) (Nat.le_of_ble_eq_true rfl) (fun e u hp => ?_) (fun r u hp => ?_)
  · have hz := hE e u hp
    rcases List.mem_cons.mp hz with rfl | hz
    · refine v_catch C T [] 0 9 12 13 [(0, 9, 15, 20)] rfl (fun z hz => by cases hz) ⟨by decide, by decide⟩ (by decide) cl_L_13 ca_EIO (fun q2 => ?_)
      refine v_astore_n C dL_restore_12 rfl (Nat.le_of_ble_eq_true rfl) rfl ?_
      refine v_iconst C dL_restore_13 (v := nI 1) (by decide) ?_
      exact v_iret C F rfl dL_restore_14 (by omega) (by omega) (Or.inr ⟨_, u, 0, hp, rfl, rfl, rfl⟩)
    obtain rfl := List.mem_singleton.mp hz
    refine v_catch C T [(0, 9, 12, 13)] 0 9 15 20 [] rfl (fun z hz => by obtain rfl := List.mem_singleton.mp hz; exact ⟨by decide, EIO, cl_L_13, List.mem_of_getElem? (i := 4) rfl⟩) ⟨by decide, by decide⟩ (by decide) cl_L_20 ca_EIS (fun q2 => ?_)
    refine v_astore_n C dL_restore_15 rfl (Nat.le_of_ble_eq_true rfl) rfl ?_
    refine v_iconst C dL_restore_16 (v := nI 2) (by decide) ?_
    exact v_iret C F rfl dL_restore_17 (by omega) (by omega) (Or.inr ⟨_, u, 1, hp, rfl, rfl, rfl⟩)
  · skip
    refine v_i2l C dL_restore_7 rfl ?_
    refine v_last C aj_l (by decide) 0 (by decide) rfl dL_restore_8 ?_
    refine v_goto C 18 dL_restore_9 (by decide) ?_
    refine v_iconst C dL_restore_18 (v := nI 0) (by decide) ?_
    exact v_iret C F rfl dL_restore_19 (by omega) (by omega) (Or.inl ⟨r, u, hp, rfl, rfl⟩)
