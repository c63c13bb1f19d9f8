set_option maxHeartbeats 8000000 in
set_option maxRecDepth 100000 in
theorem ci_Fi (l : Launch) (D : va_G) (cA : ClassId) (h0 sz : Nat) : Met l y_Fi_init (Cond.code y_Fi_init c_Fi_init 1 none :: rz_tbl) ({ frames := 1, cells := 6, slots := 232, locals := 12 }) (va_Pc [.ref h0] (fun U => U.heap.size = sz ∧ va_P D CL [(h0, .inr (2, [.null, .null, .null, .null, .null, .null, .int 0]))] U.heap ∧ va_K D CL [(cA, .int)] U ∧ va_D (fun _ => True) [(h0, .inr (2, [.null, .null, .null, .null, .null, .null, .int 0]))] ∧ NWA U)) (va_Qv (fun _ : Unit => True) (fun _ t => ∃ q1 q2 q3 q4 q5 q6 : Nat, va_P D CL [(h0, .inr (2, [.ref q1, .ref q2, .ref q3, .ref q4, .ref q5, .ref q6, .int 1])), (q1, .inl (cA, 8, .inl (upd (fun _ => 0) 0 16128))), (q2, .inl (cA, 8, .inl (upd (fun _ => 0) 0 (-1)))), (q3, .inl (cA, 8, .inl (fun _ => 0))), (q4, .inl (cA, 8, .inl (fun _ => 0))), (q5, .inl (cA, 8, .inl (fun _ => 0))), (q6, .inl (cA, 192, .inl (fun _ => 0)))] t.heap ∧ va_K D CL [(cA, .int)] t ∧ va_D (va_A [(h0, .inr (2, [.null, .null, .null, .null, .null, .null, .int 0]))] sz) [(h0, .inr (2, [.ref q1, .ref q2, .ref q3, .ref q4, .ref q5, .ref q6, .int 1])), (q1, .inl (cA, 8, .inl (upd (fun _ => 0) 0 16128))), (q2, .inl (cA, 8, .inl (upd (fun _ => 0) 0 (-1)))), (q3, .inl (cA, 8, .inl (fun _ => 0))), (q4, .inl (cA, 8, .inl (fun _ => 0))), (q5, .inl (cA, 8, .inl (fun _ => 0))), (q6, .inl (cA, 192, .inl (fun _ => 0)))]) (va_A [(h0, .inr (2, [.null, .null, .null, .null, .null, .null, .int 0]))] sz)) 6 232 (va_A [(h0, .inr (2, [.null, .null, .null, .null, .null, .null, .int 0]))] sz) := by
  refine Met.ofW (cc := c_Fi_init) (maxL := 1) (ret := none) (by decide) rfl ?_
  intro p e s m args below meth c s₁ B hml hv
  obtain ⟨rfl, hsz, hP, hK, hD0, hNW⟩ := hv
  have hx := B.exec
  have hb := B.bytes
  have hr := B.returns
  have hts0 := atoms_spec (ws := (Cond.code y_Fi_init c_Fi_init 1 none :: rz_tbl)) B.pre
  have hts : ∀ w ∈ rz_tbl, w.before _ s = true := fun w h => hts0 w (List.mem_cons_of_mem _ h)
  have hown : s.vm.findClass R_Fi = some m.cls := findClass_of_methodNamed B.named
  have hlocks := B.notSynchronized
  have hin : meth.name = "<init>" := (name_of_methodNamed B.named B.method).1
  subst hsz
  have hD := hD0.self (sz := s.heap.size)
  generalize hAe : va_A [(h0, .inr (2, [.null, .null, .null, .null, .null, .null, .int 0]))] s.heap.size = A at hD ⊢
  have hA : ∀ q : Nat, s.heap.size ≤ q → A q := fun q h => by rw [← hAe]; exact Or.inr h
  have hS : va_S A s.heap s.heap [] := va_S.rf
  have hP : va_P D CL [(h0, .inr (2, [.null, .null, .null, .null, .null, .null, .int 0]))] s.heap := hP
  have hl := lv_entry ([.ref h0]) (n := 1) (Nat.le_of_ble_eq_true rfl)
  rw [lg_entry_eq]
  generalize (lg_sl ([.ref h0]) ++ List.replicate (1 - (lg_sl ([.ref h0])).length) Slot.unset).toArray = ls at hl ⊢
  have hl : lv_has ls 1 [(0, .ref h0)] := hl
  refine lv_aload_n hx hb d_Fi_init_0 rfl (lv_at hl 0 rfl) ?_
  refine W.objInit hx hb hown (hts _ wd_117) (hts _ wd_56) (hts _ wd_57) rfl (by rw [hml]; exact hl.1) rfl d_Fi_init_1 (Nat.le_of_ble_eq_true rfl) (Nat.le_of_ble_eq_true rfl) ?_
  refine W.eq (g2 := F0 m 4 ls []) rfl ?_
  refine lv_aload_n hx hb d_Fi_init_4 rfl (lv_at hl 0 rfl) ?_
  refine lv_bipush (v := 8) hx hb d_Fi_init_5 (by decide) ?_
  refine nw_arr (N' := 8) hx hb (hts _ wd_99) hK hP hD hS hA (by decide) (by decide) (by decide) (Nat.le_of_ble_eq_true rfl) (Nat.le_of_ble_eq_true rfl) d_Fi_init_7 (fun q1 H hP hD hS => ?_)
  have hP : va_P D CL [(h0, .inr (2, [.null, .null, .null, .null, .null, .null, .int 0])), (q1, .inl (cA, 8, .inl (fun _ => 0)))] H := hP
  have hD : va_D A [(h0, .inr (2, [.null, .null, .null, .null, .null, .null, .int 0])), (q1, .inl (cA, 8, .inl (fun _ => 0)))] := hD
  refine W.widen (k := 1) (n := 8) (Nat.le_of_ble_eq_true rfl) (Nat.le_of_ble_eq_true rfl) ?_
  refine va_putF (D := D) (ci := 2) (v := .ref q1) (ty := (.array .int)) (C := R_Fi) (T := T_Fi) (N := 7) hx hb hts in_Fi ty_Fi tyok_Fi nm_Fi hown hK hP hD hS 0 rfl rfl 0 (by decide) (hts _ wd_118) (fun _ h9 => h9) rfl hin rfl (by decide +kernel) rfl rfl (Nat.le_of_ble_eq_true rfl) d_Fi_init_9 (fun H locs hP hD hS => ?_)
  have hP : va_P D CL [(h0, .inr (2, [.ref q1, .null, .null, .null, .null, .null, .int 0])), (q1, .inl (cA, 8, .inl (fun _ => 0)))] H := hP
  have hD : va_D A [(h0, .inr (2, [.ref q1, .null, .null, .null, .null, .null, .int 0])), (q1, .inl (cA, 8, .inl (fun _ => 0)))] := hD
  refine lv_aload_n hx hb d_Fi_init_12 rfl (lv_at hl 0 rfl) ?_
  refine lv_bipush (v := 8) hx hb d_Fi_init_13 (by decide) ?_
  refine nw_arr (N' := 8) hx hb (hts _ wd_99) hK hP hD hS hA (by decide) (by decide) (by decide) (Nat.le_of_ble_eq_true rfl) (Nat.le_of_ble_eq_true rfl) d_Fi_init_15 (fun q2 H hP hD hS => ?_)
  have hP : va_P D CL [(h0, .inr (2, [.ref q1, .null, .null, .null, .null, .null, .int 0])), (q1, .inl (cA, 8, .inl (fun _ => 0))), (q2, .inl (cA, 8, .inl (fun _ => 0)))] H := hP
  have hD : va_D A [(h0, .inr (2, [.ref q1, .null, .null, .null, .null, .null, .int 0])), (q1, .inl (cA, 8, .inl (fun _ => 0))), (q2, .inl (cA, 8, .inl (fun _ => 0)))] := hD
  refine W.widen (k := 2) (n := 16) (Nat.le_of_ble_eq_true rfl) (Nat.le_of_ble_eq_true rfl) ?_
  refine va_putF (D := D) (ci := 2) (v := .ref q2) (ty := (.array .int)) (C := R_Fi) (T := T_Fi) (N := 7) hx hb hts in_Fi ty_Fi tyok_Fi nm_Fi hown hK hP hD hS 0 rfl rfl 1 (by decide) (hts _ wd_120) (fun _ h9 => h9) rfl hin rfl (by decide +kernel) rfl rfl (Nat.le_of_ble_eq_true rfl) d_Fi_init_17 (fun H locs hP hD hS => ?_)
  have hP : va_P D CL [(h0, .inr (2, [.ref q1, .ref q2, .null, .null, .null, .null, .int 0])), (q1, .inl (cA, 8, .inl (fun _ => 0))), (q2, .inl (cA, 8, .inl (fun _ => 0)))] H := hP
  have hD : va_D A [(h0, .inr (2, [.ref q1, .ref q2, .null, .null, .null, .null, .int 0])), (q1, .inl (cA, 8, .inl (fun _ => 0))), (q2, .inl (cA, 8, .inl (fun _ => 0)))] := hD
  refine lv_aload_n hx hb d_Fi_init_20 rfl (lv_at hl 0 rfl) ?_
  refine lv_bipush (v := 8) hx hb d_Fi_init_21 (by decide) ?_
  refine nw_arr (N' := 8) hx hb (hts _ wd_99) hK hP hD hS hA (by decide) (by decide) (by decide) (Nat.le_of_ble_eq_true rfl) (Nat.le_of_ble_eq_true rfl) d_Fi_init_23 (fun q3 H hP hD hS => ?_)
  have hP : va_P D CL [(h0, .inr (2, [.ref q1, .ref q2, .null, .null, .null, .null, .int 0])), (q1, .inl (cA, 8, .inl (fun _ => 0))), (q2, .inl (cA, 8, .inl (fun _ => 0))), (q3, .inl (cA, 8, .inl (fun _ => 0)))] H := hP
  have hD : va_D A [(h0, .inr (2, [.ref q1, .ref q2, .null, .null, .null, .null, .int 0])), (q1, .inl (cA, 8, .inl (fun _ => 0))), (q2, .inl (cA, 8, .inl (fun _ => 0))), (q3, .inl (cA, 8, .inl (fun _ => 0)))] := hD
  refine W.widen (k := 3) (n := 24) (Nat.le_of_ble_eq_true rfl) (Nat.le_of_ble_eq_true rfl) ?_
  refine va_putF (D := D) (ci := 2) (v := .ref q3) (ty := (.array .int)) (C := R_Fi) (T := T_Fi) (N := 7) hx hb hts in_Fi ty_Fi tyok_Fi nm_Fi hown hK hP hD hS 0 rfl rfl 2 (by decide) (hts _ wd_123) (fun _ h9 => h9) rfl hin rfl (by decide +kernel) rfl rfl (Nat.le_of_ble_eq_true rfl) d_Fi_init_25 (fun H locs hP hD hS => ?_)
  have hP : va_P D CL [(h0, .inr (2, [.ref q1, .ref q2, .ref q3, .null, .null, .null, .int 0])), (q1, .inl (cA, 8, .inl (fun _ => 0))), (q2, .inl (cA, 8, .inl (fun _ => 0))), (q3, .inl (cA, 8, .inl (fun _ => 0)))] H := hP
  have hD : va_D A [(h0, .inr (2, [.ref q1, .ref q2, .ref q3, .null, .null, .null, .int 0])), (q1, .inl (cA, 8, .inl (fun _ => 0))), (q2, .inl (cA, 8, .inl (fun _ => 0))), (q3, .inl (cA, 8, .inl (fun _ => 0)))] := hD
  refine lv_aload_n hx hb d_Fi_init_28 rfl (lv_at hl 0 rfl) ?_
  refine lv_bipush (v := 8) hx hb d_Fi_init_29 (by decide) ?_
  refine nw_arr (N' := 8) hx hb (hts _ wd_99) hK hP hD hS hA (by decide) (by decide) (by decide) (Nat.le_of_ble_eq_true rfl) (Nat.le_of_ble_eq_true rfl) d_Fi_init_31 (fun q4 H hP hD hS => ?_)
  have hP : va_P D CL [(h0, .inr (2, [.ref q1, .ref q2, .ref q3, .null, .null, .null, .int 0])), (q1, .inl (cA, 8, .inl (fun _ => 0))), (q2, .inl (cA, 8, .inl (fun _ => 0))), (q3, .inl (cA, 8, .inl (fun _ => 0))), (q4, .inl (cA, 8, .inl (fun _ => 0)))] H := hP
  have hD : va_D A [(h0, .inr (2, [.ref q1, .ref q2, .ref q3, .null, .null, .null, .int 0])), (q1, .inl (cA, 8, .inl (fun _ => 0))), (q2, .inl (cA, 8, .inl (fun _ => 0))), (q3, .inl (cA, 8, .inl (fun _ => 0))), (q4, .inl (cA, 8, .inl (fun _ => 0)))] := hD
  refine W.widen (k := 4) (n := 32) (Nat.le_of_ble_eq_true rfl) (Nat.le_of_ble_eq_true rfl) ?_
  refine va_putF (D := D) (ci := 2) (v := .ref q4) (ty := (.array .int)) (C := R_Fi) (T := T_Fi) (N := 7) hx hb hts in_Fi ty_Fi tyok_Fi nm_Fi hown hK hP hD hS 0 rfl rfl 3 (by decide) (hts _ wd_126) (fun _ h9 => h9) rfl hin rfl (by decide +kernel) rfl rfl (Nat.le_of_ble_eq_true rfl) d_Fi_init_33 (fun H locs hP hD hS => ?_)
  have hP : va_P D CL [(h0, .inr (2, [.ref q1, .ref q2, .ref q3, .ref q4, .null, .null, .int 0])), (q1, .inl (cA, 8, .inl (fun _ => 0))), (q2, .inl (cA, 8, .inl (fun _ => 0))), (q3, .inl (cA, 8, .inl (fun _ => 0))), (q4, .inl (cA, 8, .inl (fun _ => 0)))] H := hP
  have hD : va_D A [(h0, .inr (2, [.ref q1, .ref q2, .ref q3, .ref q4, .null, .null, .int 0])), (q1, .inl (cA, 8, .inl (fun _ => 0))), (q2, .inl (cA, 8, .inl (fun _ => 0))), (q3, .inl (cA, 8, .inl (fun _ => 0))), (q4, .inl (cA, 8, .inl (fun _ => 0)))] := hD
  refine lv_aload_n hx hb d_Fi_init_36 rfl (lv_at hl 0 rfl) ?_
  refine lv_bipush (v := 8) hx hb d_Fi_init_37 (by decide) ?_
  refine nw_arr (N' := 8) hx hb (hts _ wd_99) hK hP hD hS hA (by decide) (by decide) (by decide) (Nat.le_of_ble_eq_true rfl) (Nat.le_of_ble_eq_true rfl) d_Fi_init_39 (fun q5 H hP hD hS => ?_)
  have hP : va_P D CL [(h0, .inr (2, [.ref q1, .ref q2, .ref q3, .ref q4, .null, .null, .int 0])), (q1, .inl (cA, 8, .inl (fun _ => 0))), (q2, .inl (cA, 8, .inl (fun _ => 0))), (q3, .inl (cA, 8, .inl (fun _ => 0))), (q4, .inl (cA, 8, .inl (fun _ => 0))), (q5, .inl (cA, 8, .inl (fun _ => 0)))] H := hP
  have hD : va_D A [(h0, .inr (2, [.ref q1, .ref q2, .ref q3, .ref q4, .null, .null, .int 0])), (q1, .inl (cA, 8, .inl (fun _ => 0))), (q2, .inl (cA, 8, .inl (fun _ => 0))), (q3, .inl (cA, 8, .inl (fun _ => 0))), (q4, .inl (cA, 8, .inl (fun _ => 0))), (q5, .inl (cA, 8, .inl (fun _ => 0)))] := hD
  refine W.widen (k := 5) (n := 40) (Nat.le_of_ble_eq_true rfl) (Nat.le_of_ble_eq_true rfl) ?_
  refine va_putF (D := D) (ci := 2) (v := .ref q5) (ty := (.array .int)) (C := R_Fi) (T := T_Fi) (N := 7) hx hb hts in_Fi ty_Fi tyok_Fi nm_Fi hown hK hP hD hS 0 rfl rfl 4 (by decide) (hts _ wd_128) (fun _ h9 => h9) rfl hin rfl (by decide +kernel) rfl rfl (Nat.le_of_ble_eq_true rfl) d_Fi_init_41 (fun H locs hP hD hS => ?_)
  have hP : va_P D CL [(h0, .inr (2, [.ref q1, .ref q2, .ref q3, .ref q4, .ref q5, .null, .int 0])), (q1, .inl (cA, 8, .inl (fun _ => 0))), (q2, .inl (cA, 8, .inl (fun _ => 0))), (q3, .inl (cA, 8, .inl (fun _ => 0))), (q4, .inl (cA, 8, .inl (fun _ => 0))), (q5, .inl (cA, 8, .inl (fun _ => 0)))] H := hP
  have hD : va_D A [(h0, .inr (2, [.ref q1, .ref q2, .ref q3, .ref q4, .ref q5, .null, .int 0])), (q1, .inl (cA, 8, .inl (fun _ => 0))), (q2, .inl (cA, 8, .inl (fun _ => 0))), (q3, .inl (cA, 8, .inl (fun _ => 0))), (q4, .inl (cA, 8, .inl (fun _ => 0))), (q5, .inl (cA, 8, .inl (fun _ => 0)))] := hD
  refine lv_aload_n hx hb d_Fi_init_44 rfl (lv_at hl 0 rfl) ?_
  refine lv_sipush (v := 192) hx hb d_Fi_init_45 (by decide) ?_
  refine nw_arr (N' := 192) hx hb (hts _ wd_99) hK hP hD hS hA (by decide) (by decide) (by decide) (Nat.le_of_ble_eq_true rfl) (Nat.le_of_ble_eq_true rfl) d_Fi_init_48 (fun q6 H hP hD hS => ?_)
  have hP : va_P D CL [(h0, .inr (2, [.ref q1, .ref q2, .ref q3, .ref q4, .ref q5, .null, .int 0])), (q1, .inl (cA, 8, .inl (fun _ => 0))), (q2, .inl (cA, 8, .inl (fun _ => 0))), (q3, .inl (cA, 8, .inl (fun _ => 0))), (q4, .inl (cA, 8, .inl (fun _ => 0))), (q5, .inl (cA, 8, .inl (fun _ => 0))), (q6, .inl (cA, 192, .inl (fun _ => 0)))] H := hP
  have hD : va_D A [(h0, .inr (2, [.ref q1, .ref q2, .ref q3, .ref q4, .ref q5, .null, .int 0])), (q1, .inl (cA, 8, .inl (fun _ => 0))), (q2, .inl (cA, 8, .inl (fun _ => 0))), (q3, .inl (cA, 8, .inl (fun _ => 0))), (q4, .inl (cA, 8, .inl (fun _ => 0))), (q5, .inl (cA, 8, .inl (fun _ => 0))), (q6, .inl (cA, 192, .inl (fun _ => 0)))] := hD
  refine W.widen (k := 6) (n := 232) (Nat.le_of_ble_eq_true rfl) (Nat.le_of_ble_eq_true rfl) ?_
  refine va_putF (D := D) (ci := 2) (v := .ref q6) (ty := (.array .int)) (C := R_Fi) (T := T_Fi) (N := 7) hx hb hts in_Fi ty_Fi tyok_Fi nm_Fi hown hK hP hD hS 0 rfl rfl 5 (by decide) (hts _ wd_130) (fun _ h9 => h9) rfl hin rfl (by decide +kernel) rfl rfl (Nat.le_of_ble_eq_true rfl) d_Fi_init_50 (fun H locs hP hD hS => ?_)
  have hP : va_P D CL [(h0, .inr (2, [.ref q1, .ref q2, .ref q3, .ref q4, .ref q5, .ref q6, .int 0])), (q1, .inl (cA, 8, .inl (fun _ => 0))), (q2, .inl (cA, 8, .inl (fun _ => 0))), (q3, .inl (cA, 8, .inl (fun _ => 0))), (q4, .inl (cA, 8, .inl (fun _ => 0))), (q5, .inl (cA, 8, .inl (fun _ => 0))), (q6, .inl (cA, 192, .inl (fun _ => 0)))] H := hP
  have hD : va_D A [(h0, .inr (2, [.ref q1, .ref q2, .ref q3, .ref q4, .ref q5, .ref q6, .int 0])), (q1, .inl (cA, 8, .inl (fun _ => 0))), (q2, .inl (cA, 8, .inl (fun _ => 0))), (q3, .inl (cA, 8, .inl (fun _ => 0))), (q4, .inl (cA, 8, .inl (fun _ => 0))), (q5, .inl (cA, 8, .inl (fun _ => 0))), (q6, .inl (cA, 192, .inl (fun _ => 0)))] := hD
  refine lv_aload_n hx hb d_Fi_init_53 rfl (lv_at hl 0 rfl) ?_
  refine lv_iconst (v := 1) hx hb d_Fi_init_54 (by decide) ?_
  refine va_put (D := D) (ci := 2) (v := .int 1) (ty := .int) (C := R_Fi) (T := T_Fi) (N := 7) hx hb hts in_Fi ty_Fi tyok_Fi nm_Fi hown hK hP hD hS 0 rfl rfl 6 (by decide) (hts _ wd_131) (fun _ h9 => h9) rfl (by decide +kernel) rfl rfl (Nat.le_of_ble_eq_true rfl) d_Fi_init_55 (fun H locs hP hD hS => ?_)
  have hP : va_P D CL [(h0, .inr (2, [.ref q1, .ref q2, .ref q3, .ref q4, .ref q5, .ref q6, .int 1])), (q1, .inl (cA, 8, .inl (fun _ => 0))), (q2, .inl (cA, 8, .inl (fun _ => 0))), (q3, .inl (cA, 8, .inl (fun _ => 0))), (q4, .inl (cA, 8, .inl (fun _ => 0))), (q5, .inl (cA, 8, .inl (fun _ => 0))), (q6, .inl (cA, 192, .inl (fun _ => 0)))] H := hP
  have hD : va_D A [(h0, .inr (2, [.ref q1, .ref q2, .ref q3, .ref q4, .ref q5, .ref q6, .int 1])), (q1, .inl (cA, 8, .inl (fun _ => 0))), (q2, .inl (cA, 8, .inl (fun _ => 0))), (q3, .inl (cA, 8, .inl (fun _ => 0))), (q4, .inl (cA, 8, .inl (fun _ => 0))), (q5, .inl (cA, 8, .inl (fun _ => 0))), (q6, .inl (cA, 192, .inl (fun _ => 0)))] := hD
  refine lv_aload_n hx hb d_Fi_init_58 rfl (lv_at hl 0 rfl) ?_
  refine va_get (D := D) (ci := 2) (v := .ref q1) (C := R_Fi) (T := T_Fi) (N := 7) hx hb hts in_Fi hown hK hP 0 rfl rfl 0 (by decide) (hts _ wd_118) (fun _ h9 => h9) rfl d_Fi_init_59 ?_
  refine lv_iconst (v := 0) hx hb d_Fi_init_62 (by decide) ?_
  refine lv_sipush (v := 16128) hx hb d_Fi_init_63 (by decide) ?_
  refine va_iast hx hb hK hP hD hS 1 0 rfl rfl (i := 0) (x := 16128) (vi_c (by decide)) d_Fi_init_66 (fun H locs hP hD hS => ?_)
  have hP : va_P D CL [(h0, .inr (2, [.ref q1, .ref q2, .ref q3, .ref q4, .ref q5, .ref q6, .int 1])), (q1, .inl (cA, 8, .inl (upd (fun _ => 0) 0 16128))), (q2, .inl (cA, 8, .inl (fun _ => 0))), (q3, .inl (cA, 8, .inl (fun _ => 0))), (q4, .inl (cA, 8, .inl (fun _ => 0))), (q5, .inl (cA, 8, .inl (fun _ => 0))), (q6, .inl (cA, 192, .inl (fun _ => 0)))] H := hP
  have hD : va_D A [(h0, .inr (2, [.ref q1, .ref q2, .ref q3, .ref q4, .ref q5, .ref q6, .int 1])), (q1, .inl (cA, 8, .inl (upd (fun _ => 0) 0 16128))), (q2, .inl (cA, 8, .inl (fun _ => 0))), (q3, .inl (cA, 8, .inl (fun _ => 0))), (q4, .inl (cA, 8, .inl (fun _ => 0))), (q5, .inl (cA, 8, .inl (fun _ => 0))), (q6, .inl (cA, 192, .inl (fun _ => 0)))] := hD
  refine lv_aload_n hx hb d_Fi_init_67 rfl (lv_at hl 0 rfl) ?_
  refine va_get (D := D) (ci := 2) (v := .ref q2) (C := R_Fi) (T := T_Fi) (N := 7) hx hb hts in_Fi hown hK hP 0 rfl rfl 1 (by decide) (hts _ wd_120) (fun _ h9 => h9) rfl d_Fi_init_68 ?_
  refine lv_iconst (v := 0) hx hb d_Fi_init_71 (by decide) ?_
  refine lv_iconst (v := (-1)) hx hb d_Fi_init_72 (by decide) ?_
  refine va_iast hx hb hK hP hD hS 2 0 rfl rfl (i := 0) (x := (-1)) (vi_c (by decide)) d_Fi_init_73 (fun H locs hP hD hS => ?_)
  have hP : va_P D CL [(h0, .inr (2, [.ref q1, .ref q2, .ref q3, .ref q4, .ref q5, .ref q6, .int 1])), (q1, .inl (cA, 8, .inl (upd (fun _ => 0) 0 16128))), (q2, .inl (cA, 8, .inl (upd (fun _ => 0) 0 (-1)))), (q3, .inl (cA, 8, .inl (fun _ => 0))), (q4, .inl (cA, 8, .inl (fun _ => 0))), (q5, .inl (cA, 8, .inl (fun _ => 0))), (q6, .inl (cA, 192, .inl (fun _ => 0)))] H := hP
  have hD : va_D A [(h0, .inr (2, [.ref q1, .ref q2, .ref q3, .ref q4, .ref q5, .ref q6, .int 1])), (q1, .inl (cA, 8, .inl (upd (fun _ => 0) 0 16128))), (q2, .inl (cA, 8, .inl (upd (fun _ => 0) 0 (-1)))), (q3, .inl (cA, 8, .inl (fun _ => 0))), (q4, .inl (cA, 8, .inl (fun _ => 0))), (q5, .inl (cA, 8, .inl (fun _ => 0))), (q6, .inl (cA, 192, .inl (fun _ => 0)))] := hD
  have hP9 := hP.sub (ws' := [(h0, .inr (2, [.ref q1, .ref q2, .ref q3, .ref q4, .ref q5, .ref q6, .int 1])), (q1, .inl (cA, 8, .inl (upd (fun _ => 0) 0 16128))), (q2, .inl (cA, 8, .inl (upd (fun _ => 0) 0 (-1)))), (q3, .inl (cA, 8, .inl (fun _ => 0))), (q4, .inl (cA, 8, .inl (fun _ => 0))), (q5, .inl (cA, 8, .inl (fun _ => 0))), (q6, .inl (cA, 192, .inl (fun _ => 0)))]) [0, 1, 2, 3, 4, 5, 6] rfl
  have hD9 := hD.sub (ws' := [(h0, .inr (2, [.ref q1, .ref q2, .ref q3, .ref q4, .ref q5, .ref q6, .int 1])), (q1, .inl (cA, 8, .inl (upd (fun _ => 0) 0 16128))), (q2, .inl (cA, 8, .inl (upd (fun _ => 0) 0 (-1)))), (q3, .inl (cA, 8, .inl (fun _ => 0))), (q4, .inl (cA, 8, .inl (fun _ => 0))), (q5, .inl (cA, 8, .inl (fun _ => 0))), (q6, .inl (cA, 192, .inl (fun _ => 0)))]) [0, 1, 2, 3, 4, 5, 6] (by decide) rfl
  exact W.vret hx hb hr (fun t ht hW => ⟨⟨(), rfl, trivial, q1, q2, q3, q4, q5, q6, by rw [ht]; exact hP9, va_K.moved hW.alike hK, hD9⟩, hS.F ht⟩) hS.2.2 d_Fi_init_74
