set_option maxHeartbeats 8000000 in
set_option maxRecDepth 100000 in
theorem ci_Co (l : Launch) (D : va_G) (cA : ClassId) (h0 sz : Nat) : Met l y_Co_init (Cond.code y_Co_init c_Co_init 1 none :: rz_tbl) ({ frames := 1, cells := 1, slots := 40, locals := 12 }) (va_Pc [.ref h0] (fun U => U.heap.size = sz ∧ va_P D CL [(h0, .inr (1, [.null, .int 0, .int 0, .int 0, .int 0]))] U.heap ∧ va_K D CL [(cA, .int)] U ∧ va_D (fun _ => True) [(h0, .inr (1, [.null, .int 0, .int 0, .int 0, .int 0]))] ∧ NWA U)) (va_Qv (fun _ : Unit => True) (fun _ t => ∃ q1 : Nat, va_P D CL [(h0, .inr (1, [.ref q1, .int 0, .int 0, .int 0, .int 0])), (q1, .inl (cA, 40, .inl (fun _ => 0)))] t.heap ∧ va_K D CL [(cA, .int)] t ∧ va_D (va_A [(h0, .inr (1, [.null, .int 0, .int 0, .int 0, .int 0]))] sz) [(h0, .inr (1, [.ref q1, .int 0, .int 0, .int 0, .int 0])), (q1, .inl (cA, 40, .inl (fun _ => 0)))]) (va_A [(h0, .inr (1, [.null, .int 0, .int 0, .int 0, .int 0]))] sz)) 1 40 (va_A [(h0, .inr (1, [.null, .int 0, .int 0, .int 0, .int 0]))] sz) := by
  refine Met.ofW (cc := c_Co_init) (maxL := 1) (ret := none) (by decide) rfl ?_
  intro p e s m args below meth c s₁ B hml hv
  obtain ⟨rfl, hsz, hP, hK, hD0, hNW⟩ := hv
  have hx := B.exec
  have hb := B.bytes
  have hr := B.returns
  have hts0 := atoms_spec (ws := (Cond.code y_Co_init c_Co_init 1 none :: rz_tbl)) B.pre
  have hts : ∀ w ∈ rz_tbl, w.before _ s = true := fun w h => hts0 w (List.mem_cons_of_mem _ h)
  have hown : s.vm.findClass R_Co = some m.cls := findClass_of_methodNamed B.named
  have hlocks := B.notSynchronized
  have hin : meth.name = "<init>" := (name_of_methodNamed B.named B.method).1
  subst hsz
  have hD := hD0.self (sz := s.heap.size)
  generalize hAe : va_A [(h0, .inr (1, [.null, .int 0, .int 0, .int 0, .int 0]))] s.heap.size = A at hD ⊢
  have hA : ∀ q : Nat, s.heap.size ≤ q → A q := fun q h => by rw [← hAe]; exact Or.inr h
  have hS : va_S A s.heap s.heap [] := va_S.rf
  have hP : va_P D CL [(h0, .inr (1, [.null, .int 0, .int 0, .int 0, .int 0]))] s.heap := hP
  have hl := lv_entry ([.ref h0]) (n := 1) (Nat.le_of_ble_eq_true rfl)
  rw [lg_entry_eq]
  generalize (lg_sl ([.ref h0]) ++ List.replicate (1 - (lg_sl ([.ref h0])).length) Slot.unset).toArray = ls at hl ⊢
  have hl : lv_has ls 1 [(0, .ref h0)] := hl
  refine lv_aload_n hx hb d_Co_init_0 rfl (lv_at hl 0 rfl) ?_
  refine W.objInit hx hb hown (hts _ wd_196) (hts _ wd_56) (hts _ wd_57) rfl (by rw [hml]; exact hl.1) rfl d_Co_init_1 (Nat.le_of_ble_eq_true rfl) (Nat.le_of_ble_eq_true rfl) ?_
  refine W.eq (g2 := F0 m 4 ls []) rfl ?_
  refine lv_aload_n hx hb d_Co_init_4 rfl (lv_at hl 0 rfl) ?_
  refine lv_bipush (v := 40) hx hb d_Co_init_5 (by decide) ?_
  refine nw_arr (N' := 40) hx hb (hts _ wd_99) hK hP hD hS hA (by decide) (by decide) (by decide) (Nat.le_of_ble_eq_true rfl) (Nat.le_of_ble_eq_true rfl) d_Co_init_7 (fun q1 H hP hD hS => ?_)
  have hP : va_P D CL [(h0, .inr (1, [.null, .int 0, .int 0, .int 0, .int 0])), (q1, .inl (cA, 40, .inl (fun _ => 0)))] H := hP
  have hD : va_D A [(h0, .inr (1, [.null, .int 0, .int 0, .int 0, .int 0])), (q1, .inl (cA, 40, .inl (fun _ => 0)))] := hD
  refine W.widen (k := 1) (n := 40) (Nat.le_of_ble_eq_true rfl) (Nat.le_of_ble_eq_true rfl) ?_
  refine va_putF (D := D) (ci := 1) (v := .ref q1) (ty := (.array .int)) (C := R_Co) (T := T_Co) (N := 5) hx hb hts in_Co ty_Co tyok_Co nm_Co hown hK hP hD hS 0 rfl rfl 0 (by decide) (hts _ wd_197) (fun _ h9 => h9) rfl hin rfl (by decide +kernel) rfl rfl (Nat.le_of_ble_eq_true rfl) d_Co_init_9 (fun H locs hP hD hS => ?_)
  have hP : va_P D CL [(h0, .inr (1, [.ref q1, .int 0, .int 0, .int 0, .int 0])), (q1, .inl (cA, 40, .inl (fun _ => 0)))] H := hP
  have hD : va_D A [(h0, .inr (1, [.ref q1, .int 0, .int 0, .int 0, .int 0])), (q1, .inl (cA, 40, .inl (fun _ => 0)))] := hD
  have hP9 := hP.sub (ws' := [(h0, .inr (1, [.ref q1, .int 0, .int 0, .int 0, .int 0])), (q1, .inl (cA, 40, .inl (fun _ => 0)))]) [0, 1] rfl
  have hD9 := hD.sub (ws' := [(h0, .inr (1, [.ref q1, .int 0, .int 0, .int 0, .int 0])), (q1, .inl (cA, 40, .inl (fun _ => 0)))]) [0, 1] (by decide) rfl
  exact W.vret hx hb hr (fun t ht hW => ⟨⟨(), rfl, trivial, q1, by rw [ht]; exact hP9, va_K.moved hW.alike hK, hD9⟩, hS.F ht⟩) hS.2.2 d_Co_init_12
