/-! what the tables say of classes and methods -/
theorem jin (j : Nat) {l : List Jvm.Cond} (h : jtb[j]? = some l) : ∀ w ∈ l, w ∈ jw := fun w hw => List.mem_flatten.mpr ⟨l, List.mem_of_getElem? h, hw⟩
def jp_fkc (ty : FieldType) (n : Nat) : Bool := match n, ty with
  | 0, .int => true
  | 1, .boolean => true
  | 2, .object _ => true
  | 2, .array _ => true
  | _, _ => false
theorem jp_fkc_ok {ty : FieldType} {n : Nat} (h : jp_fkc ty n = true) : (n = 0 → ty = .int) ∧ (n = 1 → ty = .boolean) ∧ (n = 2 → (∃ C, ty = .object C) ∨ ∃ t, ty = .array t) := by
  unfold jp_fkc at h
  split at h
  · exact ⟨fun _ => rfl, fun h => (by cases h), fun h => (by cases h)⟩
  · exact ⟨fun h => (by cases h), fun _ => rfl, fun h => (by cases h)⟩
  · exact ⟨fun h => (by cases h), fun h => (by cases h), fun _ => Or.inl ⟨_, rfl⟩⟩
  · exact ⟨fun h => (by cases h), fun h => (by cases h), fun _ => Or.inr ⟨_, rfl⟩⟩
  · cases h
def jp_dfc (ty : FieldType) (o : Option (Option Nat)) : Bool := match defaultValue ty, o with
  | .int x, none => decide (x = 0)
  | .null, some none => true
  | _, _ => false
theorem jp_dfc_ok {ty : FieldType} {o : Option (Option Nat)} (h : jp_dfc ty o = true) : (o = none ∨ o = some none) ∧ defaultValue ty = jp_tr (fun _ => 0) (jp_fval 0 o) := by
  unfold jp_dfc at h
  split at h
  · next x h1 =>
    rw [h1, of_decide_eq_true h]
    exact ⟨Or.inl rfl, rfl⟩
  · next h1 =>
    rw [h1]
    exact ⟨Or.inr rfl, rfl⟩
  · cases h
theorem jp_all_lt {n : Nat} {f : Nat → Bool} (h : (List.range n).all f = true) : ∀ k, k < n → f k = true := fun k hk => List.all_eq_true.mp h k (List.mem_range.mpr hk)
theorem jp_dF {ci n : Nat} {T : u_T} {ty : Nat → FieldType} (hl : (jdf ci).length = n) (h : ∀ k, k < n → jp_dfc (ty k) ((jdf ci).getD k none) = true) (hty : ∀ k, k < n → parseFieldDescriptor (T k).2.2.1 = some (ty k)) : (jdf ci).length = n ∧ (∀ o ∈ jdf ci, o = none ∨ o = some none) ∧ ∃ ty : Nat → FieldType, (∀ k, k < n → parseFieldDescriptor (T k).2.2.1 = some (ty k)) ∧ ∀ j o, (jdf ci)[j]? = some o → defaultValue (ty j) = jp_tr (fun _ => 0) (jp_fval 0 o) := by
  have key : ∀ (j : Nat) (o : Option (Option Nat)), (jdf ci)[j]? = some o → (o = none ∨ o = some none) ∧ defaultValue (ty j) = jp_tr (fun _ => 0) (jp_fval 0 o) := by
    intro j o hj
    have h1 := h j (by rw [← hl]; exact (List.getElem?_eq_some_iff.mp hj).1)
    rw [List.getD_eq_getElem?_getD, hj] at h1
    exact jp_dfc_ok h1
  refine ⟨hl, fun o ho => ?_, ty, hty, fun j o hj => (key j o hj).2⟩
  obtain ⟨j, hj⟩ := List.getElem?_of_mem ho
  exact (key j o hj).1
theorem jpn_X0 : plainName RX0 = true := by decide +kernel
theorem jpa_X0 : RX0 ≠ "java/lang/invoke/MethodHandle" ∧ RX0 ≠ "java/lang/invoke/VarHandle" := by decide +kernel
theorem jpn_X1 : plainName RX1 = true := by decide +kernel
theorem jpa_X1 : RX1 ≠ "java/lang/invoke/MethodHandle" ∧ RX1 ≠ "java/lang/invoke/VarHandle" := by decide +kernel
theorem jpn_X2 : plainName RX2 = true := by decide +kernel
theorem jpa_X2 : RX2 ≠ "java/lang/invoke/MethodHandle" ∧ RX2 ≠ "java/lang/invoke/VarHandle" := by decide +kernel
theorem jpn_X3 : plainName RX3 = true := by decide +kernel
theorem jpa_X3 : RX3 ≠ "java/lang/invoke/MethodHandle" ∧ RX3 ≠ "java/lang/invoke/VarHandle" := by decide +kernel
theorem jpn_X4 : plainName RX4 = true := by decide +kernel
theorem jpa_X4 : RX4 ≠ "java/lang/invoke/MethodHandle" ∧ RX4 ≠ "java/lang/invoke/VarHandle" := by decide +kernel
theorem jpn_X5 : plainName RX5 = true := by decide +kernel
theorem jpa_X5 : RX5 ≠ "java/lang/invoke/MethodHandle" ∧ RX5 ≠ "java/lang/invoke/VarHandle" := by decide +kernel
theorem jpn_X6 : plainName RX6 = true := by decide +kernel
theorem jpa_X6 : RX6 ≠ "java/lang/invoke/MethodHandle" ∧ RX6 ≠ "java/lang/invoke/VarHandle" := by decide +kernel
theorem jpn_X7 : plainName RX7 = true := by decide +kernel
theorem jpa_X7 : RX7 ≠ "java/lang/invoke/MethodHandle" ∧ RX7 ≠ "java/lang/invoke/VarHandle" := by decide +kernel
theorem jpn_X8 : plainName RX8 = true := by decide +kernel
theorem jpa_X8 : RX8 ≠ "java/lang/invoke/MethodHandle" ∧ RX8 ≠ "java/lang/invoke/VarHandle" := by decide +kernel
theorem jpn_X9 : plainName RX9 = true := by decide +kernel
theorem jpa_X9 : RX9 ≠ "java/lang/invoke/MethodHandle" ∧ RX9 ≠ "java/lang/invoke/VarHandle" := by decide +kernel
theorem jpn_X10 : plainName RX10 = true := by decide +kernel
theorem jpa_X10 : RX10 ≠ "java/lang/invoke/MethodHandle" ∧ RX10 ≠ "java/lang/invoke/VarHandle" := by decide +kernel
theorem jpn_X11 : plainName RX11 = true := by decide +kernel
theorem jpa_X11 : RX11 ≠ "java/lang/invoke/MethodHandle" ∧ RX11 ≠ "java/lang/invoke/VarHandle" := by decide +kernel
theorem jpn_X12 : plainName RX12 = true := by decide +kernel
theorem jpa_X12 : RX12 ≠ "java/lang/invoke/MethodHandle" ∧ RX12 ≠ "java/lang/invoke/VarHandle" := by decide +kernel
theorem jpn_J6 : plainName RJ6 = true := by decide +kernel
theorem jpa_J6 : RJ6 ≠ "java/lang/invoke/MethodHandle" ∧ RJ6 ≠ "java/lang/invoke/VarHandle" := by decide +kernel
theorem jpn_J0 : plainName RJ0 = true := by decide +kernel
theorem jpa_J0 : RJ0 ≠ "java/lang/invoke/MethodHandle" ∧ RJ0 ≠ "java/lang/invoke/VarHandle" := by decide +kernel
theorem jpn_J1 : plainName RJ1 = true := by decide +kernel
theorem jpa_J1 : RJ1 ≠ "java/lang/invoke/MethodHandle" ∧ RJ1 ≠ "java/lang/invoke/VarHandle" := by decide +kernel
theorem jpn_J3 : plainName RJ3 = true := by decide +kernel
theorem jpa_J3 : RJ3 ≠ "java/lang/invoke/MethodHandle" ∧ RJ3 ≠ "java/lang/invoke/VarHandle" := by decide +kernel
theorem jpn_L : plainName RL = true := by decide +kernel
theorem jpa_L : RL ≠ "java/lang/invoke/MethodHandle" ∧ RL ≠ "java/lang/invoke/VarHandle" := by decide +kernel
theorem jd_0 : ∀ k, (TX0 k).1 = RX0 := by
  intro k
  unfold TX0
  split <;> rfl
theorem jk_0 : ∀ k, k < 8 → jp_fkc (tyX0 k) (jfk 0 k) = true := jp_all_lt (by decide +kernel)
theorem jf_0 : ∀ k, k < 8 → jp_dfc (tyX0 k) ((jdf 0).getD k none) = true := jp_all_lt (by decide +kernel)
theorem jC_0 : jp_okC jw jfk 0 (RX0, TX0, 8) := ⟨fun w hw => jin 1 rfl w (List.mem_append_left _ hw), tyX0, tyX0_ok, nmX0, fun k hk => jp_fkc_ok (jk_0 k hk)⟩
theorem jI_0 : Jvm.Cond.instantiable RX0 8 ∈ jw ∧ Jvm.Cond.initialized RX0 ∈ jw := ⟨jin 1 rfl _ (List.mem_append_right _ List.mem_cons_self), jin 1 rfl _ (List.mem_append_right _ (List.mem_cons_of_mem _ List.mem_cons_self))⟩
theorem jF_0 : (jdf 0).length = 8 ∧ (∀ o ∈ jdf 0, o = none ∨ o = some none) ∧ ∃ ty : Nat → FieldType, (∀ k, k < 8 → parseFieldDescriptor (TX0 k).2.2.1 = some (ty k)) ∧ ∀ j o, (jdf 0)[j]? = some o → defaultValue (ty j) = jp_tr (fun _ => 0) (jp_fval 0 o) := jp_dF rfl jf_0 tyX0_ok
theorem jd_1 : ∀ k, (TX1 k).1 = RX1 := by
  intro k
  unfold TX1
  split <;> rfl
theorem jk_1 : ∀ k, k < 10 → jp_fkc (tyX1 k) (jfk 1 k) = true := jp_all_lt (by decide +kernel)
theorem jf_1 : ∀ k, k < 10 → jp_dfc (tyX1 k) ((jdf 1).getD k none) = true := jp_all_lt (by decide +kernel)
theorem jC_1 : jp_okC jw jfk 1 (RX1, TX1, 10) := ⟨fun w hw => jin 2 rfl w (List.mem_append_left _ hw), tyX1, tyX1_ok, nmX1, fun k hk => jp_fkc_ok (jk_1 k hk)⟩
theorem jI_1 : Jvm.Cond.instantiable RX1 10 ∈ jw ∧ Jvm.Cond.initialized RX1 ∈ jw := ⟨jin 2 rfl _ (List.mem_append_right _ List.mem_cons_self), jin 2 rfl _ (List.mem_append_right _ (List.mem_cons_of_mem _ List.mem_cons_self))⟩
theorem jF_1 : (jdf 1).length = 10 ∧ (∀ o ∈ jdf 1, o = none ∨ o = some none) ∧ ∃ ty : Nat → FieldType, (∀ k, k < 10 → parseFieldDescriptor (TX1 k).2.2.1 = some (ty k)) ∧ ∀ j o, (jdf 1)[j]? = some o → defaultValue (ty j) = jp_tr (fun _ => 0) (jp_fval 0 o) := jp_dF rfl jf_1 tyX1_ok
theorem jd_2 : ∀ k, (TX2 k).1 = RX2 := by
  intro k
  unfold TX2
  split <;> rfl
theorem jk_2 : ∀ k, k < 4 → jp_fkc (tyX2 k) (jfk 2 k) = true := jp_all_lt (by decide +kernel)
theorem jf_2 : ∀ k, k < 4 → jp_dfc (tyX2 k) ((jdf 2).getD k none) = true := jp_all_lt (by decide +kernel)
theorem jC_2 : jp_okC jw jfk 2 (RX2, TX2, 4) := ⟨fun w hw => jin 3 rfl w (List.mem_append_left _ hw), tyX2, tyX2_ok, nmX2, fun k hk => jp_fkc_ok (jk_2 k hk)⟩
theorem jI_2 : Jvm.Cond.instantiable RX2 4 ∈ jw ∧ Jvm.Cond.initialized RX2 ∈ jw := ⟨jin 3 rfl _ (List.mem_append_right _ List.mem_cons_self), jin 3 rfl _ (List.mem_append_right _ (List.mem_cons_of_mem _ List.mem_cons_self))⟩
theorem jF_2 : (jdf 2).length = 4 ∧ (∀ o ∈ jdf 2, o = none ∨ o = some none) ∧ ∃ ty : Nat → FieldType, (∀ k, k < 4 → parseFieldDescriptor (TX2 k).2.2.1 = some (ty k)) ∧ ∀ j o, (jdf 2)[j]? = some o → defaultValue (ty j) = jp_tr (fun _ => 0) (jp_fval 0 o) := jp_dF rfl jf_2 tyX2_ok
theorem jd_3 : ∀ k, (TX3 k).1 = RX3 := by
  intro k
  unfold TX3
  split <;> rfl
theorem jk_3 : ∀ k, k < 8 → jp_fkc (tyX3 k) (jfk 3 k) = true := jp_all_lt (by decide +kernel)
theorem jf_3 : ∀ k, k < 8 → jp_dfc (tyX3 k) ((jdf 3).getD k none) = true := jp_all_lt (by decide +kernel)
theorem jC_3 : jp_okC jw jfk 3 (RX3, TX3, 8) := ⟨fun w hw => jin 4 rfl w (List.mem_append_left _ hw), tyX3, tyX3_ok, nmX3, fun k hk => jp_fkc_ok (jk_3 k hk)⟩
theorem jI_3 : Jvm.Cond.instantiable RX3 8 ∈ jw ∧ Jvm.Cond.initialized RX3 ∈ jw := ⟨jin 4 rfl _ (List.mem_append_right _ List.mem_cons_self), jin 4 rfl _ (List.mem_append_right _ (List.mem_cons_of_mem _ List.mem_cons_self))⟩
theorem jF_3 : (jdf 3).length = 8 ∧ (∀ o ∈ jdf 3, o = none ∨ o = some none) ∧ ∃ ty : Nat → FieldType, (∀ k, k < 8 → parseFieldDescriptor (TX3 k).2.2.1 = some (ty k)) ∧ ∀ j o, (jdf 3)[j]? = some o → defaultValue (ty j) = jp_tr (fun _ => 0) (jp_fval 0 o) := jp_dF rfl jf_3 tyX3_ok
theorem jd_4 : ∀ k, (TX4 k).1 = RX4 := by
  intro k
  unfold TX4
  split <;> rfl
theorem jk_4 : ∀ k, k < 2 → jp_fkc (tyX4 k) (jfk 4 k) = true := jp_all_lt (by decide +kernel)
theorem jf_4 : ∀ k, k < 2 → jp_dfc (tyX4 k) ((jdf 4).getD k none) = true := jp_all_lt (by decide +kernel)
theorem jC_4 : jp_okC jw jfk 4 (RX4, TX4, 2) := ⟨fun w hw => jin 5 rfl w (List.mem_append_left _ hw), tyX4, tyX4_ok, nmX4, fun k hk => jp_fkc_ok (jk_4 k hk)⟩
theorem jI_4 : Jvm.Cond.instantiable RX4 2 ∈ jw ∧ Jvm.Cond.initialized RX4 ∈ jw := ⟨jin 5 rfl _ (List.mem_append_right _ List.mem_cons_self), jin 5 rfl _ (List.mem_append_right _ (List.mem_cons_of_mem _ List.mem_cons_self))⟩
theorem jF_4 : (jdf 4).length = 2 ∧ (∀ o ∈ jdf 4, o = none ∨ o = some none) ∧ ∃ ty : Nat → FieldType, (∀ k, k < 2 → parseFieldDescriptor (TX4 k).2.2.1 = some (ty k)) ∧ ∀ j o, (jdf 4)[j]? = some o → defaultValue (ty j) = jp_tr (fun _ => 0) (jp_fval 0 o) := jp_dF rfl jf_4 tyX4_ok
theorem jd_5 : ∀ k, (TX5 k).1 = RX5 := by
  intro k
  unfold TX5
  split <;> rfl
theorem jk_5 : ∀ k, k < 6 → jp_fkc (tyX5 k) (jfk 5 k) = true := jp_all_lt (by decide +kernel)
theorem jf_5 : ∀ k, k < 6 → jp_dfc (tyX5 k) ((jdf 5).getD k none) = true := jp_all_lt (by decide +kernel)
theorem jC_5 : jp_okC jw jfk 5 (RX5, TX5, 6) := ⟨fun w hw => jin 6 rfl w (List.mem_append_left _ hw), tyX5, tyX5_ok, nmX5, fun k hk => jp_fkc_ok (jk_5 k hk)⟩
theorem jI_5 : Jvm.Cond.instantiable RX5 6 ∈ jw ∧ Jvm.Cond.initialized RX5 ∈ jw := ⟨jin 6 rfl _ (List.mem_append_right _ List.mem_cons_self), jin 6 rfl _ (List.mem_append_right _ (List.mem_cons_of_mem _ List.mem_cons_self))⟩
theorem jF_5 : (jdf 5).length = 6 ∧ (∀ o ∈ jdf 5, o = none ∨ o = some none) ∧ ∃ ty : Nat → FieldType, (∀ k, k < 6 → parseFieldDescriptor (TX5 k).2.2.1 = some (ty k)) ∧ ∀ j o, (jdf 5)[j]? = some o → defaultValue (ty j) = jp_tr (fun _ => 0) (jp_fval 0 o) := jp_dF rfl jf_5 tyX5_ok
theorem jd_6 : ∀ k, (TX6 k).1 = RX6 := by
  intro k
  unfold TX6
  split <;> rfl
theorem jk_6 : ∀ k, k < 9 → jp_fkc (tyX6 k) (jfk 6 k) = true := jp_all_lt (by decide +kernel)
theorem jf_6 : ∀ k, k < 9 → jp_dfc (tyX6 k) ((jdf 6).getD k none) = true := jp_all_lt (by decide +kernel)
theorem jC_6 : jp_okC jw jfk 6 (RX6, TX6, 9) := ⟨fun w hw => jin 7 rfl w (List.mem_append_left _ hw), tyX6, tyX6_ok, nmX6, fun k hk => jp_fkc_ok (jk_6 k hk)⟩
theorem jI_6 : Jvm.Cond.instantiable RX6 9 ∈ jw ∧ Jvm.Cond.initialized RX6 ∈ jw := ⟨jin 7 rfl _ (List.mem_append_right _ List.mem_cons_self), jin 7 rfl _ (List.mem_append_right _ (List.mem_cons_of_mem _ List.mem_cons_self))⟩
theorem jF_6 : (jdf 6).length = 9 ∧ (∀ o ∈ jdf 6, o = none ∨ o = some none) ∧ ∃ ty : Nat → FieldType, (∀ k, k < 9 → parseFieldDescriptor (TX6 k).2.2.1 = some (ty k)) ∧ ∀ j o, (jdf 6)[j]? = some o → defaultValue (ty j) = jp_tr (fun _ => 0) (jp_fval 0 o) := jp_dF rfl jf_6 tyX6_ok
theorem jd_7 : ∀ k, (TX7 k).1 = RX7 := by
  intro k
  unfold TX7
  split <;> rfl
theorem jk_7 : ∀ k, k < 2 → jp_fkc (tyX7 k) (jfk 7 k) = true := jp_all_lt (by decide +kernel)
theorem jf_7 : ∀ k, k < 2 → jp_dfc (tyX7 k) ((jdf 7).getD k none) = true := jp_all_lt (by decide +kernel)
theorem jC_7 : jp_okC jw jfk 7 (RX7, TX7, 2) := ⟨fun w hw => jin 8 rfl w (List.mem_append_left _ hw), tyX7, tyX7_ok, nmX7, fun k hk => jp_fkc_ok (jk_7 k hk)⟩
theorem jI_7 : Jvm.Cond.instantiable RX7 2 ∈ jw ∧ Jvm.Cond.initialized RX7 ∈ jw := ⟨jin 8 rfl _ (List.mem_append_right _ List.mem_cons_self), jin 8 rfl _ (List.mem_append_right _ (List.mem_cons_of_mem _ List.mem_cons_self))⟩
theorem jF_7 : (jdf 7).length = 2 ∧ (∀ o ∈ jdf 7, o = none ∨ o = some none) ∧ ∃ ty : Nat → FieldType, (∀ k, k < 2 → parseFieldDescriptor (TX7 k).2.2.1 = some (ty k)) ∧ ∀ j o, (jdf 7)[j]? = some o → defaultValue (ty j) = jp_tr (fun _ => 0) (jp_fval 0 o) := jp_dF rfl jf_7 tyX7_ok
theorem jd_8 : ∀ k, (TX8 k).1 = RX8 := by
  intro k
  unfold TX8
  split <;> rfl
theorem jk_8 : ∀ k, k < 8 → jp_fkc (tyX8 k) (jfk 8 k) = true := jp_all_lt (by decide +kernel)
theorem jf_8 : ∀ k, k < 8 → jp_dfc (tyX8 k) ((jdf 8).getD k none) = true := jp_all_lt (by decide +kernel)
theorem jC_8 : jp_okC jw jfk 8 (RX8, TX8, 8) := ⟨fun w hw => jin 9 rfl w (List.mem_append_left _ hw), tyX8, tyX8_ok, nmX8, fun k hk => jp_fkc_ok (jk_8 k hk)⟩
theorem jI_8 : Jvm.Cond.instantiable RX8 8 ∈ jw ∧ Jvm.Cond.initialized RX8 ∈ jw := ⟨jin 9 rfl _ (List.mem_append_right _ List.mem_cons_self), jin 9 rfl _ (List.mem_append_right _ (List.mem_cons_of_mem _ List.mem_cons_self))⟩
theorem jF_8 : (jdf 8).length = 8 ∧ (∀ o ∈ jdf 8, o = none ∨ o = some none) ∧ ∃ ty : Nat → FieldType, (∀ k, k < 8 → parseFieldDescriptor (TX8 k).2.2.1 = some (ty k)) ∧ ∀ j o, (jdf 8)[j]? = some o → defaultValue (ty j) = jp_tr (fun _ => 0) (jp_fval 0 o) := jp_dF rfl jf_8 tyX8_ok
theorem jd_9 : ∀ k, (TX9 k).1 = RX9 := by
  intro k
  unfold TX9
  split <;> rfl
theorem jk_9 : ∀ k, k < 10 → jp_fkc (tyX9 k) (jfk 9 k) = true := jp_all_lt (by decide +kernel)
theorem jf_9 : ∀ k, k < 10 → jp_dfc (tyX9 k) ((jdf 9).getD k none) = true := jp_all_lt (by decide +kernel)
theorem jC_9 : jp_okC jw jfk 9 (RX9, TX9, 10) := ⟨fun w hw => jin 10 rfl w (List.mem_append_left _ hw), tyX9, tyX9_ok, nmX9, fun k hk => jp_fkc_ok (jk_9 k hk)⟩
theorem jI_9 : Jvm.Cond.instantiable RX9 10 ∈ jw ∧ Jvm.Cond.initialized RX9 ∈ jw := ⟨jin 10 rfl _ (List.mem_append_right _ List.mem_cons_self), jin 10 rfl _ (List.mem_append_right _ (List.mem_cons_of_mem _ List.mem_cons_self))⟩
theorem jF_9 : (jdf 9).length = 10 ∧ (∀ o ∈ jdf 9, o = none ∨ o = some none) ∧ ∃ ty : Nat → FieldType, (∀ k, k < 10 → parseFieldDescriptor (TX9 k).2.2.1 = some (ty k)) ∧ ∀ j o, (jdf 9)[j]? = some o → defaultValue (ty j) = jp_tr (fun _ => 0) (jp_fval 0 o) := jp_dF rfl jf_9 tyX9_ok
theorem jd_10 : ∀ k, (TX10 k).1 = RX10 := by
  intro k
  unfold TX10
  split <;> rfl
theorem jk_10 : ∀ k, k < 11 → jp_fkc (tyX10 k) (jfk 10 k) = true := jp_all_lt (by decide +kernel)
theorem jf_10 : ∀ k, k < 11 → jp_dfc (tyX10 k) ((jdf 10).getD k none) = true := jp_all_lt (by decide +kernel)
theorem jC_10 : jp_okC jw jfk 10 (RX10, TX10, 11) := ⟨fun w hw => jin 11 rfl w (List.mem_append_left _ hw), tyX10, tyX10_ok, nmX10, fun k hk => jp_fkc_ok (jk_10 k hk)⟩
theorem jI_10 : Jvm.Cond.instantiable RX10 11 ∈ jw ∧ Jvm.Cond.initialized RX10 ∈ jw := ⟨jin 11 rfl _ (List.mem_append_right _ List.mem_cons_self), jin 11 rfl _ (List.mem_append_right _ (List.mem_cons_of_mem _ List.mem_cons_self))⟩
theorem jF_10 : (jdf 10).length = 11 ∧ (∀ o ∈ jdf 10, o = none ∨ o = some none) ∧ ∃ ty : Nat → FieldType, (∀ k, k < 11 → parseFieldDescriptor (TX10 k).2.2.1 = some (ty k)) ∧ ∀ j o, (jdf 10)[j]? = some o → defaultValue (ty j) = jp_tr (fun _ => 0) (jp_fval 0 o) := jp_dF rfl jf_10 tyX10_ok
theorem jd_11 : ∀ k, (TX11 k).1 = RX11 := by
  intro k
  unfold TX11
  split <;> rfl
theorem jk_11 : ∀ k, k < 15 → jp_fkc (tyX11 k) (jfk 11 k) = true := jp_all_lt (by decide +kernel)
theorem jf_11 : ∀ k, k < 15 → jp_dfc (tyX11 k) ((jdf 11).getD k none) = true := jp_all_lt (by decide +kernel)
theorem jC_11 : jp_okC jw jfk 11 (RX11, TX11, 15) := ⟨fun w hw => jin 12 rfl w (List.mem_append_left _ hw), tyX11, tyX11_ok, nmX11, fun k hk => jp_fkc_ok (jk_11 k hk)⟩
theorem jI_11 : Jvm.Cond.instantiable RX11 15 ∈ jw ∧ Jvm.Cond.initialized RX11 ∈ jw := ⟨jin 12 rfl _ (List.mem_append_right _ List.mem_cons_self), jin 12 rfl _ (List.mem_append_right _ (List.mem_cons_of_mem _ List.mem_cons_self))⟩
theorem jF_11 : (jdf 11).length = 15 ∧ (∀ o ∈ jdf 11, o = none ∨ o = some none) ∧ ∃ ty : Nat → FieldType, (∀ k, k < 15 → parseFieldDescriptor (TX11 k).2.2.1 = some (ty k)) ∧ ∀ j o, (jdf 11)[j]? = some o → defaultValue (ty j) = jp_tr (fun _ => 0) (jp_fval 0 o) := jp_dF rfl jf_11 tyX11_ok
theorem jd_12 : ∀ k, (TX12 k).1 = RX12 := by
  intro k
  unfold TX12
  split <;> rfl
theorem jk_12 : ∀ k, k < 66 → jp_fkc (tyX12 k) (jfk 12 k) = true := jp_all_lt (by decide +kernel)
theorem jf_12 : ∀ k, k < 66 → jp_dfc (tyX12 k) ((jdf 12).getD k none) = true := jp_all_lt (by decide +kernel)
theorem jC_12 : jp_okC jw jfk 12 (RX12, TX12, 66) := ⟨fun w hw => jin 13 rfl w (List.mem_append_left _ hw), tyX12, tyX12_ok, nmX12, fun k hk => jp_fkc_ok (jk_12 k hk)⟩
theorem jI_12 : Jvm.Cond.instantiable RX12 66 ∈ jw ∧ Jvm.Cond.initialized RX12 ∈ jw := ⟨jin 13 rfl _ (List.mem_append_right _ List.mem_cons_self), jin 13 rfl _ (List.mem_append_right _ (List.mem_cons_of_mem _ List.mem_cons_self))⟩
theorem jF_12 : (jdf 12).length = 66 ∧ (∀ o ∈ jdf 12, o = none ∨ o = some none) ∧ ∃ ty : Nat → FieldType, (∀ k, k < 66 → parseFieldDescriptor (TX12 k).2.2.1 = some (ty k)) ∧ ∀ j o, (jdf 12)[j]? = some o → defaultValue (ty j) = jp_tr (fun _ => 0) (jp_fval 0 o) := jp_dF rfl jf_12 tyX12_ok
theorem jC_all : ∀ (ci : Nat) (q : vw_C), jcl[ci]? = some q → jp_okC jw jfk ci q := by
  intro ci q h
  match ci, h with
  | 0, h => cases h; exact jC_0
  | 1, h => cases h; exact jC_1
  | 2, h => cases h; exact jC_2
  | 3, h => cases h; exact jC_3
  | 4, h => cases h; exact jC_4
  | 5, h => cases h; exact jC_5
  | 6, h => cases h; exact jC_6
  | 7, h => cases h; exact jC_7
  | 8, h => cases h; exact jC_8
  | 9, h => cases h; exact jC_9
  | 10, h => cases h; exact jC_10
  | 11, h => cases h; exact jC_11
  | 12, h => cases h; exact jC_12
  | n + 13, h => cases h
theorem jI_all : ∀ (ci : Nat) (q : vw_C), jcl[ci]? = some q → (Jvm.Cond.instantiable q.1 q.2.2 ∈ jw ∧ Jvm.Cond.initialized q.1 ∈ jw) ∧ ∀ k, (q.2.1 k).1 = q.1 := by
  intro ci q h
  match ci, h with
  | 0, h => cases h; exact ⟨jI_0, jd_0⟩
  | 1, h => cases h; exact ⟨jI_1, jd_1⟩
  | 2, h => cases h; exact ⟨jI_2, jd_2⟩
  | 3, h => cases h; exact ⟨jI_3, jd_3⟩
  | 4, h => cases h; exact ⟨jI_4, jd_4⟩
  | 5, h => cases h; exact ⟨jI_5, jd_5⟩
  | 6, h => cases h; exact ⟨jI_6, jd_6⟩
  | 7, h => cases h; exact ⟨jI_7, jd_7⟩
  | 8, h => cases h; exact ⟨jI_8, jd_8⟩
  | 9, h => cases h; exact ⟨jI_9, jd_9⟩
  | 10, h => cases h; exact ⟨jI_10, jd_10⟩
  | 11, h => cases h; exact ⟨jI_11, jd_11⟩
  | 12, h => cases h; exact ⟨jI_12, jd_12⟩
  | n + 13, h => cases h
theorem jF_all : ∀ (ci : Nat) (q : vw_C), jcl[ci]? = some q → (jdf ci).length = q.2.2 ∧ (∀ o ∈ jdf ci, o = none ∨ o = some none) ∧ ∃ ty : Nat → FieldType, (∀ k, k < q.2.2 → parseFieldDescriptor (q.2.1 k).2.2.1 = some (ty k)) ∧ ∀ j o, (jdf ci)[j]? = some o → defaultValue (ty j) = jp_tr (fun _ => 0) (jp_fval 0 o) := by
  intro ci q h
  match ci, h with
  | 0, h => cases h; exact jF_0
  | 1, h => cases h; exact jF_1
  | 2, h => cases h; exact jF_2
  | 3, h => cases h; exact jF_3
  | 4, h => cases h; exact jF_4
  | 5, h => cases h; exact jF_5
  | 6, h => cases h; exact jF_6
  | 7, h => cases h; exact jF_7
  | 8, h => cases h; exact jF_8
  | 9, h => cases h; exact jF_9
  | 10, h => cases h; exact jF_10
  | 11, h => cases h; exact jF_11
  | 12, h => cases h; exact jF_12
  | n + 13, h => cases h
theorem jglob : jp_glob jw jcl jSR := ⟨⟨jin 0 rfl _ (List.mem_of_getElem? (i := 0) rfl), jin 0 rfl _ (List.mem_of_getElem? (i := 1) rfl), jin 0 rfl _ (List.mem_of_getElem? (i := 2) rfl)⟩, ⟨jin 0 rfl _ (List.mem_of_getElem? (i := 3) rfl), jin 0 rfl _ (List.mem_of_getElem? (i := 4) rfl)⟩, ⟨⟨jin 0 rfl _ (List.mem_of_getElem? (i := 5) rfl), jin 0 rfl _ (List.mem_of_getElem? (i := 11) rfl), jin 0 rfl _ (List.mem_of_getElem? (i := 6) rfl)⟩, ⟨jin 0 rfl _ (List.mem_of_getElem? (i := 7) rfl), jin 0 rfl _ (List.mem_of_getElem? (i := 11) rfl), jin 0 rfl _ (List.mem_of_getElem? (i := 8) rfl)⟩, ⟨jin 0 rfl _ (List.mem_of_getElem? (i := 9) rfl), jin 0 rfl _ (List.mem_of_getElem? (i := 11) rfl), jin 0 rfl _ (List.mem_of_getElem? (i := 10) rfl)⟩⟩, jI_all⟩
theorem jsr6 : ∀ (j : Nat) (q : String × Nat × String), jSR[j]? = some q → q.1 = RX6 := by
  intro j q h
  match j, h with
  | 0, h => cases h; rfl
  | 1, h => cases h; rfl
  | 2, h => cases h; rfl
  | 3, h => cases h; rfl
  | 4, h => cases h; rfl
  | n + 5, h => cases h
