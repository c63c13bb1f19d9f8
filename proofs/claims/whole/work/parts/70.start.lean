/-! THE START: the first memory, and the law from its entry (by program, wip/gen/gen_start.py) -/
def mu0 : rz_M := (rz_up (rz_up (rz_up (rz_up (rz_up (rz_up (rz_up (rz_up (rz_up (rz_up (rz_up (rz_up (fun _ _ => 0) 1 8 32) 5 5 (-1)) 6 7 3) 6 10 (-1)) 7 6 1) 8 0 16128) 9 0 (-1)) 19 6 1) 19 8 3) 19 12 (-1)) 20 0 16128) 21 0 (-1))
def mi {α β : Type} (f : Nat → α → β) : Nat → List α → List β
  | _, [] => []
  | n, a :: l => f n a :: mi f (n + 1) l
theorem mi_get {α β : Type} (f : Nat → α → β) : ∀ (l : List α) (n i : Nat), (mi f n l)[i]? = l[i]?.map (f (n + i))
  | [], n, i => by simp [mi]
  | a :: l, n, 0 => by simp [mi]
  | a :: l, n, i + 1 => by
    rw [mi, List.getElem?_cons_succ, List.getElem?_cons_succ, mi_get f l (n + 1) i]
    congr 2
    omega
theorem mi_eq {α β : Type} (f : Nat → α → β) (l : List α) : l.mapIdx f = mi f 0 l := by
  apply List.ext_getElem?
  intro i
  rw [List.getElem?_mapIdx, mi_get, Nat.zero_add]
def rz_e2 (ad : Nat → Nat) (cA : ClassId) (μ : rz_M) (k : Nat) (x : rz_Sh) : Nat × va_E := (ad k, match x with
  | .inl n => .inl (cA, n, .inl (μ k))
  | .inr o => .inr (o.1, mi (rz_fv ad (μ k)) 0 o.2))
theorem rz_ws2 {ad : Nat → Nat} {cA : ClassId} {sh : List rz_Sh} {μ : rz_M} : rz_ws ad cA sh μ = mi (rz_e2 ad cA μ) 0 sh := by
  unfold rz_ws
  rw [mi_eq]
  congr 1
  funext k x
  unfold rz_e rz_e2
  cases x with
  | inl n => rfl
  | inr o =>
    show (ad k, (Sum.inr (o.1, o.2.mapIdx (rz_fv ad (μ k))) : va_E)) = (ad k, Sum.inr (o.1, mi (rz_fv ad (μ k)) 0 o.2))
    rw [mi_eq]
def ad_of (as : List Nat) (b : Nat) : Nat → Nat := fun k => (as[k]?).getD b
theorem arr_K {args : Array Value} {s : State} (h : (Cond.arrayClass .int).before args s = true) : ∃ cA : ClassId, ∀ (k : Nat) (q : ClassId × FieldType), [(cA, FieldType.int)][k]? = some q → ArrOfT s q.1 q.2 ∧ va_RA s q.1 q.2 := by
  obtain ⟨cA, kA, comp, h1, h2, h3⟩ := Cond.arrayClass_spec h
  refine ⟨cA, fun k q hq => ?_⟩
  have hz : k < 1 := (List.getElem?_eq_some_iff.mp hq).1
  rw [show k = 0 by omega] at hq
  cases hq
  exact ⟨fun n z => ⟨fun k h => (by cases h), kA, h2, comp, h3⟩, h1⟩
theorem mu0_OCT {f : Nat → Int32} (h : f = fun _ => 0) : OCT f := fun j => ⟨0, by omega, by rw [h]; rfl⟩
theorem BR_mu0 : BR mu0 mu0 := by
  refine Or.inr ⟨⟨rfl, rfl, rfl, rfl, ⟨?_, ⟨Or.inl ⟨rfl, rfl⟩, 3, by omega, rfl⟩, ?_, ?_⟩, mu0_OCT rfl, mu0_OCT rfl⟩, rfl⟩
  · refine ⟨1, ⟨rfl, by omega, by omega⟩, fun i _ => ⟨0, by omega, rfl⟩, fun i _ => ⟨0, by omega, rfl⟩, fun i _ => ⟨0, by omega, rfl⟩, ⟨rfl, fun i hi => ?_⟩, rfl, fun i hi h1 => ⟨0, by omega, ?_⟩⟩
    · show ∃ m : Nat, m ≤ 65535 ∧ upd (fun _ => (0 : Int32)) 0 16128 i = nI m
      by_cases e : i = 0
      · subst e; rw [pk_us]; exact ⟨16128, by omega, rfl⟩
      · rw [pk_un e]; exact ⟨0, by omega, rfl⟩
    · show upd (fun _ => (0 : Int32)) 0 (-1) i = nI 0
      rw [pk_un (by omega)]; rfl
  · intro p hp
    simp only [zP, List.mem_cons, List.not_mem_nil, or_false] at hp
    rcases hp with rfl | rfl | rfl | rfl | rfl | rfl | rfl | rfl | rfl <;> rfl
  · intro q hq
    simp only [zA, List.mem_cons, List.not_mem_nil, or_false] at hq
    rcases hq with rfl | rfl | rfl | rfl | rfl | rfl | rfl | rfl | rfl | rfl | rfl <;> rfl
set_option maxHeartbeats 8000000 in
/-- from behind the constructors -/
theorem law_run {p : Program} {l : Launch} {e : Env} {s : State} {m : MethodId} {below : List Frame} {meth : Method} {c : Code} {b L : Nat} {xs : Nat → Int32} (hL : L ≤ 3072) (C0 : lw_At p s m meth c b L xs) (hts : ∀ w ∈ rz_tbl, w.before #[Value.ref b] s = true) (hNW : NWA s) {D : va_G} {cA : ClassId} (hK : va_K D CL [(cA, .int)] s) {ad : Nat → Nat} {k0 m0 : Nat} (h1000 : ad 1000 = b) (h0 : ad 0 = k0) (h19 : ad 19 = m0) {H : Heap} {locs : List Loc} {ls : Array Slot}
    (hP : va_P D CL (rz_ws ad cA SH mu0) H) (hD : va_D (rz_A s.heap.size) (rz_ws ad cA SH mu0)) (hS : va_S (rz_A s.heap.size) s.heap H locs) (hl : lv_has ls 4 [(2, .ref m0), (1, .ref k0), (0, .ref b)]) : W p l e room_1 s m #[Value.ref b] below meth c H locs 32 969 (lw_Z below #[Value.ref b] s) (F0 m 16 ls []) := by
  obtain ⟨hx, hb, hr, hml, hown, hts0, hX, hbl, hlocks, hgv⟩ := id C0
  have G : rz_Cx CL ((l, D, ad, cA, s.heap.size), p, e, room_1, s, m, #[Value.ref b], below, meth, c, lw_Z below #[Value.ref b] s, 32, 969, 4) c_Lw_law 4 rz_tbl R_Lw room_1 :=
    ⟨⟨hx, hb, hml, hown, hts⟩, hK, Nat.le_refl _, Nat.le_of_ble_eq_true rfl, Nat.le_of_ble_eq_true rfl, rfl, rfl, hNW.1⟩
  have S : rz_Sc ((l, D, ad, cA, s.heap.size), p, e, room_1, s, m, #[Value.ref b], below, meth, c, lw_Z below #[Value.ref b] s, 32, 969, 4) b L xs := ⟨hX, hbl, rfl, h1000⟩
  have hY : ∀ b' ls' st μ, rz_ex (fun _ _ => True) (fun b' => rz_W SH CL ((l, D, ad, cA, s.heap.size), p, e, room_1, s, m, #[Value.ref b], below, meth, c, lw_Z below #[Value.ref b] s, 32, 969, 4) (bp_Lw b')) (bk_Lw L xs b') ls' st μ → rz_W SH CL ((l, D, ad, cA, s.heap.size), p, e, room_1, s, m, #[Value.ref b], below, meth, c, lw_Z below #[Value.ref b] s, 32, 969, 4) (bp_Lw b') ls' st μ :=
    fun b' ls' st μ h => sd_Lw _ G S b' _ _ (fun pc v ls2 μ2 hd hv _ la H2 locs2 _ _ _ hS2 => by
      subst hv
      exact va_forget (fun q hq => hS2.2.2 q hq) (lw_ret hx hb hr hlocks hd)) (fun _ _ _ _ z => z) ls' st μ h
  have key := hY 0 [some (.ref 1000), some (.ref 0), some (.ref 19), none] [] mu0 (bd_Lw hL _ _ (fun _ => trivial) hY (L + 1) 0 mu0 (by omega) BR_mu0 (Nat.zero_le L))
  refine key ls H locs ?_ hP hD hS
  refine ⟨hl.1, hl.2.1, fun q hq => hl.2.2 q ?_⟩
  have hq : q ∈ [(0, Value.ref (ad 1000)), (1, Value.ref (ad 0)), (2, Value.ref (ad 19))] := hq
  rw [h1000, h0, h19] at hq
  simp only [List.mem_cons, List.not_mem_nil, or_false] at hq ⊢
  rcases hq with rfl | rfl | rfl
  · exact Or.inr (Or.inr rfl)
  · exact Or.inr (Or.inl rfl)
  · exact Or.inl rfl
set_option maxHeartbeats 8000000 in
set_option maxRecDepth 100000 in
theorem ws_eq {cA : ClassId} (k0 k1 k2 k3 k4 k5 k6 k7 k8 k9 k10 k11 k12 k13 k14 k15 k16 k17 k18 m0 m1 m2 m3 m4 m5 m6 m7 m8 m9 m10 m11 m12 b : Nat) : rz_ws (ad_of [k0, k1, k2, k3, k4, k5, k6, k7, k8, k9, k10, k11, k12, k13, k14, k15, k16, k17, k18, m0, m1, m2, m3, m4, m5, m6, m7, m8, m9, m10, m11, m12] b) cA SH mu0 = [(k0, .inr (6, [.ref k1, .ref k5, .ref k6, .int 0, .int 0])), (k1, .inr (3, [.ref k2, .int 0, .ref k3, .int 0, .ref k4, .int 0, .int 0, .int 0, .int 32])), (k2, .inl (cA, 36, .inl (fun _ => 0))), (k3, .inl (cA, 36, .inl (fun _ => 0))), (k4, .inl (cA, 36, .inl (fun _ => 0))), (k5, .inr (5, [.ref k6, .ref k15, .ref k17, .int 0, .int 0, .int (-1)])), (k6, .inr (4, [.ref k7, .ref k14, .int 0, .int 0, .int 0, .int 0, .int 0, .int 3, .int 0, .int 0, .int (-1)])), (k7, .inr (2, [.ref k8, .ref k9, .ref k10, .ref k11, .ref k12, .ref k13, .int 1])), (k8, .inl (cA, 8, .inl (upd (fun _ => 0) 0 16128))), (k9, .inl (cA, 8, .inl (upd (fun _ => 0) 0 (-1)))), (k10, .inl (cA, 8, .inl (fun _ => 0))), (k11, .inl (cA, 8, .inl (fun _ => 0))), (k12, .inl (cA, 8, .inl (fun _ => 0))), (k13, .inl (cA, 192, .inl (fun _ => 0))), (k14, .inl (cA, 24, .inl (fun _ => 0))), (k15, .inr (1, [.ref k16, .int 0, .int 0, .int 0, .int 0])), (k16, .inl (cA, 40, .inl (fun _ => 0))), (k17, .inr (0, [.ref k18, .int 0, .int 0])), (k18, .inl (cA, 26, .inl (fun _ => 0))), (m0, .inr (7, [.ref m1, .ref m2, .ref m3, .ref m4, .ref m5, .ref m6, .int 1, .int 0, .int 3, .int 0, .int 0, .int 0, .int (-1), .ref m7, .int 0, .int 0, .int 0, .int 0, .int 0, .int 0, .int 0, .int 0, .int 0, .int 0, .int 0, .ref m8, .ref m9, .ref m10, .ref m11, .ref m12, .int 0, .int 0, .int 0, .int 0, .int 0, .int 0, .int 0])), (m1, .inl (cA, 8, .inl (upd (fun _ => 0) 0 16128))), (m2, .inl (cA, 8, .inl (upd (fun _ => 0) 0 (-1)))), (m3, .inl (cA, 8, .inl (fun _ => 0))), (m4, .inl (cA, 8, .inl (fun _ => 0))), (m5, .inl (cA, 8, .inl (fun _ => 0))), (m6, .inl (cA, 192, .inl (fun _ => 0))), (m7, .inl (cA, 24, .inl (fun _ => 0))), (m8, .inl (cA, 40, .inl (fun _ => 0))), (m9, .inl (cA, 40, .inl (fun _ => 0))), (m10, .inl (cA, 40, .inl (fun _ => 0))), (m11, .inl (cA, 40, .inl (fun _ => 0))), (m12, .inl (cA, 40, .inl (fun _ => 0)))] := by
  rw [rz_ws2]
  rfl
set_option maxHeartbeats 8000000 in
set_option maxRecDepth 100000 in
theorem whole_start {p : Program} {e : Env} {s : State} {m : MethodId} {below : List Frame} {meth : Method} {c : Code} (l : Launch) {b L : Nat} {xs : Nat → Int32} (hL : L ≤ 3072) (C0 : lw_At p s m meth c b L xs) : W p l e room_1 s m #[Value.ref b] below meth c s.heap [] 0 0 (lw_Z below #[Value.ref b] s) (entryFrame m ([Value.ref b] : List Value).toArray 4) := by
  obtain ⟨hx, hb, hr, hml, hown, hts0, hX, hbl, hlocks, hgv⟩ := id C0
  have hts : ∀ w ∈ rz_tbl, w.before #[Value.ref b] s = true := fun w h => hts0 w (List.mem_filter.mp h).1
  have hNW : NWA s := ⟨fun w h => va_Nw.of (rz_nw_tab w h) (hts0 w (rz_nw_in w h)), fun w h => va_Nw.of (rz_mw_tab w h) (hts0 w (rz_mw_in w h))⟩
  have hown : s.vm.findClass R_Lw = some m.cls := hown
  have hA : ∀ q : Nat, s.heap.size ≤ q → rz_A s.heap.size q := fun _ h => h
  obtain ⟨c0, iS0, hKn0⟩ := u_known (C := R_An) (T := T_An) (N := 3) (n := 3) hts in_An (hts _ wd_218)
  obtain ⟨c1, iS1, hKn1⟩ := u_known (C := R_Co) (T := T_Co) (N := 5) (n := 5) hts in_Co (hts _ wd_192)
  obtain ⟨c2, iS2, hKn2⟩ := u_known (C := R_Fi) (T := T_Fi) (N := 7) (n := 7) hts in_Fi (hts _ wd_113)
  obtain ⟨c3, iS3, hKn3⟩ := u_known (C := R_Li) (T := T_Li) (N := 9) (n := 9) hts in_Li (hts _ wd_59)
  obtain ⟨c4, iS4, hKn4⟩ := u_known (C := R_Me) (T := T_Me) (N := 11) (n := 11) hts in_Me (hts _ wd_107)
  obtain ⟨c5, iS5, hKn5⟩ := u_known (C := R_Wo) (T := T_Wo) (N := 6) (n := 6) hts in_Wo (hts _ wd_101)
  obtain ⟨c6, iS6, hKn6⟩ := u_known (C := R_Ca) (T := T_Ca) (N := 5) (n := 5) hts in_Ca (hts _ wd_51)
  obtain ⟨c7, iS7, hKn7⟩ := u_known (C := R_Mo) (T := T_Mo) (N := 37) (n := 37) hts in_Mo (hts _ wd_614)
  obtain ⟨D, hKc⟩ : ∃ D : va_G, ∀ (k : Nat) (q : vw_C), CL[k]? = some q → u_Kn s q.1 q.2.1 q.2.2 (D.1 k) (D.2 k) := by
    refine ⟨(fun k => match k with
      | 0 => c0
      | 1 => c1
      | 2 => c2
      | 3 => c3
      | 4 => c4
      | 5 => c5
      | 6 => c6
      | _ => c7, fun k => match k with
      | 0 => iS0
      | 1 => iS1
      | 2 => iS2
      | 3 => iS3
      | 4 => iS4
      | 5 => iS5
      | 6 => iS6
      | _ => iS7), ?_⟩
    intro k q hq
    match k, hq with
    | 0, hq => cases hq; exact hKn0
    | 1, hq => cases hq; exact hKn1
    | 2, hq => cases hq; exact hKn2
    | 3, hq => cases hq; exact hKn3
    | 4, hq => cases hq; exact hKn4
    | 5, hq => cases hq; exact hKn5
    | 6, hq => cases hq; exact hKn6
    | 7, hq => cases hq; exact hKn7
    | k + 8, hq => simp [CL] at hq
  obtain ⟨cA, hcA⟩ := arr_K (hts _ wd_99)
  have hK : va_K D CL [(cA, .int)] s := ⟨hKc, hcA⟩
  have hS : va_S (rz_A s.heap.size) s.heap s.heap [] := va_S.rf
  have hP : va_P D CL [] s.heap := fun k q h => by simp at h
  have hD : va_D (rz_A s.heap.size) [] := ⟨fun i j p q h => by simp at h, fun k q h => by simp at h⟩
  have hl := lv_entry ([.ref b]) (n := 4) (Nat.le_of_ble_eq_true rfl)
  rw [lg_entry_eq]
  generalize (lg_sl ([.ref b]) ++ List.replicate (4 - (lg_sl ([.ref b])).length) Slot.unset).toArray = ls at hl ⊢
  have hl : lv_has ls 4 [(0, .ref b)] := hl
  refine va_new (D := D) (ci := 6) (fs := [.null, .null, .null, .int 0, .int 0]) (C := R_Ca) (T := T_Ca) (N := 5) hx hb hts in_Ca ty_Ca tyok_Ca hown (hts _ wd_50) (hts _ wd_51) (hts _ wd_40) hK hP hD hS hA rfl df_Ca (Nat.le_of_ble_eq_true rfl) (Nat.le_of_ble_eq_true rfl) d_Lw_law_0 (fun k0 H hP hD hS => ?_)
  have hP : va_P D CL [(k0, .inr (6, [.null, .null, .null, .int 0, .int 0]))] H := hP
  have hD : va_D (rz_A s.heap.size) [(k0, .inr (6, [.null, .null, .null, .int 0, .int 0]))] := hD
  refine W.widen (k := 1) (n := 5) (Nat.le_of_ble_eq_true rfl) (Nat.le_of_ble_eq_true rfl) ?_
  refine lv_dup hx hb d_Lw_law_3 rfl ?_
  have hPc := hP.sub (ws' := [(k0, .inr (6, [.null, .null, .null, .int 0, .int 0]))]) [0] rfl
  have hDc := hD.sub (ws' := [(k0, .inr (6, [.null, .null, .null, .int 0, .int 0]))]) [0] (by decide) rfl
  have hFc := va_free (wc := [(k0, .inr (6, [.null, .null, .null, .int 0, .int 0]))]) hD hS hA [0] rfl
  refine va_callv (va_runI (As := []) (rest := [.ref k0]) ⟨hx, hb, hml, hown, hts⟩ (ci_Ca l D cA k0 H.size) (cwI 0 hts (rz_good wd_54) rfl rfl rfl (hts _ wd_40) (hts _ wd_52) (hts _ wd_53) rfl (by decide +kernel) ⟨Nat.le_of_ble_eq_true rfl, Nat.le_of_ble_eq_true rfl⟩) ⟨fun a U g mk q => by obtain ⟨q0, q1, qP, qK, qD, qN⟩ := q; exact ⟨q0, q1, qP, va_K.moved (u := U) (U := U.calling g mk a) (Vm.Alike.refl U.vm) qK, qD, nwa_same (u := U) (U := U.calling g mk a) rfl qN⟩, fun U hU hW => ⟨rfl, by rw [hU], by rw [hU]; exact hPc, va_K.moved hW.alike hK, hDc.weaken (fun _ _ _ _ => trivial), nwa_warm hW hNW⟩⟩ rfl rfl hl.1 rfl (lv_room (Nat.le_of_ble_eq_true rfl)) d_Lw_law_4 ⟨Nat.le_of_ble_eq_true rfl, Nat.le_of_ble_eq_true rfl⟩) hS (fun q _ h => hFc q h) hFc (fun u t H1 locs ht hvm hw hB hz1 hk1 hS => ?_)
  obtain ⟨k1, k2, k3, k4, k5, k6, k7, k8, k9, k10, k11, k12, k13, k14, k15, k16, k17, k18, hP1, hK1, hD1⟩ := hB
  rw [ht] at hP1
  obtain ⟨hP, hD⟩ := va_join (wr := []) (w1 := [(k0, .inr (6, [.ref k1, .ref k5, .ref k6, .int 0, .int 0])), (k1, .inr (3, [.ref k2, .int 0, .ref k3, .int 0, .ref k4, .int 0, .int 0, .int 0, .int 32])), (k2, .inl (cA, 36, .inl (fun _ => 0))), (k3, .inl (cA, 36, .inl (fun _ => 0))), (k4, .inl (cA, 36, .inl (fun _ => 0))), (k5, .inr (5, [.ref k6, .ref k15, .ref k17, .int 0, .int 0, .int (-1)])), (k6, .inr (4, [.ref k7, .ref k14, .int 0, .int 0, .int 0, .int 0, .int 0, .int 3, .int 0, .int 0, .int (-1)])), (k7, .inr (2, [.ref k8, .ref k9, .ref k10, .ref k11, .ref k12, .ref k13, .int 1])), (k8, .inl (cA, 8, .inl (upd (fun _ => 0) 0 16128))), (k9, .inl (cA, 8, .inl (upd (fun _ => 0) 0 (-1)))), (k10, .inl (cA, 8, .inl (fun _ => 0))), (k11, .inl (cA, 8, .inl (fun _ => 0))), (k12, .inl (cA, 8, .inl (fun _ => 0))), (k13, .inl (cA, 192, .inl (fun _ => 0))), (k14, .inl (cA, 24, .inl (fun _ => 0))), (k15, .inr (1, [.ref k16, .int 0, .int 0, .int 0, .int 0])), (k16, .inl (cA, 40, .inl (fun _ => 0))), (k17, .inr (0, [.ref k18, .int 0, .int 0])), (k18, .inl (cA, 26, .inl (fun _ => 0)))]) hP hD [0] [] rfl rfl (by decide) (by decide) hk1 hFc hP1 hD1
  generalize H1 = H at hP hS ⊢
  have hP : va_P D CL [(k0, .inr (6, [.ref k1, .ref k5, .ref k6, .int 0, .int 0])), (k1, .inr (3, [.ref k2, .int 0, .ref k3, .int 0, .ref k4, .int 0, .int 0, .int 0, .int 32])), (k2, .inl (cA, 36, .inl (fun _ => 0))), (k3, .inl (cA, 36, .inl (fun _ => 0))), (k4, .inl (cA, 36, .inl (fun _ => 0))), (k5, .inr (5, [.ref k6, .ref k15, .ref k17, .int 0, .int 0, .int (-1)])), (k6, .inr (4, [.ref k7, .ref k14, .int 0, .int 0, .int 0, .int 0, .int 0, .int 3, .int 0, .int 0, .int (-1)])), (k7, .inr (2, [.ref k8, .ref k9, .ref k10, .ref k11, .ref k12, .ref k13, .int 1])), (k8, .inl (cA, 8, .inl (upd (fun _ => 0) 0 16128))), (k9, .inl (cA, 8, .inl (upd (fun _ => 0) 0 (-1)))), (k10, .inl (cA, 8, .inl (fun _ => 0))), (k11, .inl (cA, 8, .inl (fun _ => 0))), (k12, .inl (cA, 8, .inl (fun _ => 0))), (k13, .inl (cA, 192, .inl (fun _ => 0))), (k14, .inl (cA, 24, .inl (fun _ => 0))), (k15, .inr (1, [.ref k16, .int 0, .int 0, .int 0, .int 0])), (k16, .inl (cA, 40, .inl (fun _ => 0))), (k17, .inr (0, [.ref k18, .int 0, .int 0])), (k18, .inl (cA, 26, .inl (fun _ => 0)))] H := hP
  have hD : va_D (rz_A s.heap.size) [(k0, .inr (6, [.ref k1, .ref k5, .ref k6, .int 0, .int 0])), (k1, .inr (3, [.ref k2, .int 0, .ref k3, .int 0, .ref k4, .int 0, .int 0, .int 0, .int 32])), (k2, .inl (cA, 36, .inl (fun _ => 0))), (k3, .inl (cA, 36, .inl (fun _ => 0))), (k4, .inl (cA, 36, .inl (fun _ => 0))), (k5, .inr (5, [.ref k6, .ref k15, .ref k17, .int 0, .int 0, .int (-1)])), (k6, .inr (4, [.ref k7, .ref k14, .int 0, .int 0, .int 0, .int 0, .int 0, .int 3, .int 0, .int 0, .int (-1)])), (k7, .inr (2, [.ref k8, .ref k9, .ref k10, .ref k11, .ref k12, .ref k13, .int 1])), (k8, .inl (cA, 8, .inl (upd (fun _ => 0) 0 16128))), (k9, .inl (cA, 8, .inl (upd (fun _ => 0) 0 (-1)))), (k10, .inl (cA, 8, .inl (fun _ => 0))), (k11, .inl (cA, 8, .inl (fun _ => 0))), (k12, .inl (cA, 8, .inl (fun _ => 0))), (k13, .inl (cA, 192, .inl (fun _ => 0))), (k14, .inl (cA, 24, .inl (fun _ => 0))), (k15, .inr (1, [.ref k16, .int 0, .int 0, .int 0, .int 0])), (k16, .inl (cA, 40, .inl (fun _ => 0))), (k17, .inr (0, [.ref k18, .int 0, .int 0])), (k18, .inl (cA, 26, .inl (fun _ => 0)))] := hD
  refine W.widen (k := 19) (n := 476) (Nat.le_of_ble_eq_true rfl) (Nat.le_of_ble_eq_true rfl) ?_
  refine lv_astore_n (lv' := [(1, .ref k0), (0, .ref b)]) hx hb d_Lw_law_7 rfl hl (by decide) rfl (fun ls hl => ?_)
  refine va_new (D := D) (ci := 7) (fs := [.null, .null, .null, .null, .null, .null, .int 0, .int 0, .int 0, .int 0, .int 0, .int 0, .int 0, .null, .int 0, .int 0, .int 0, .int 0, .int 0, .int 0, .int 0, .int 0, .int 0, .int 0, .int 0, .null, .null, .null, .null, .null, .int 0, .int 0, .int 0, .int 0, .int 0, .int 0, .int 0]) (C := R_Mo) (T := T_Mo) (N := 37) hx hb hts in_Mo ty_Mo tyok_Mo hown (hts _ wd_613) (hts _ wd_614) (hts _ wd_47) hK hP hD hS hA rfl df_Mo (Nat.le_of_ble_eq_true rfl) (Nat.le_of_ble_eq_true rfl) d_Lw_law_8 (fun m0 H hP hD hS => ?_)
  have hP : va_P D CL [(k0, .inr (6, [.ref k1, .ref k5, .ref k6, .int 0, .int 0])), (k1, .inr (3, [.ref k2, .int 0, .ref k3, .int 0, .ref k4, .int 0, .int 0, .int 0, .int 32])), (k2, .inl (cA, 36, .inl (fun _ => 0))), (k3, .inl (cA, 36, .inl (fun _ => 0))), (k4, .inl (cA, 36, .inl (fun _ => 0))), (k5, .inr (5, [.ref k6, .ref k15, .ref k17, .int 0, .int 0, .int (-1)])), (k6, .inr (4, [.ref k7, .ref k14, .int 0, .int 0, .int 0, .int 0, .int 0, .int 3, .int 0, .int 0, .int (-1)])), (k7, .inr (2, [.ref k8, .ref k9, .ref k10, .ref k11, .ref k12, .ref k13, .int 1])), (k8, .inl (cA, 8, .inl (upd (fun _ => 0) 0 16128))), (k9, .inl (cA, 8, .inl (upd (fun _ => 0) 0 (-1)))), (k10, .inl (cA, 8, .inl (fun _ => 0))), (k11, .inl (cA, 8, .inl (fun _ => 0))), (k12, .inl (cA, 8, .inl (fun _ => 0))), (k13, .inl (cA, 192, .inl (fun _ => 0))), (k14, .inl (cA, 24, .inl (fun _ => 0))), (k15, .inr (1, [.ref k16, .int 0, .int 0, .int 0, .int 0])), (k16, .inl (cA, 40, .inl (fun _ => 0))), (k17, .inr (0, [.ref k18, .int 0, .int 0])), (k18, .inl (cA, 26, .inl (fun _ => 0))), (m0, .inr (7, [.null, .null, .null, .null, .null, .null, .int 0, .int 0, .int 0, .int 0, .int 0, .int 0, .int 0, .null, .int 0, .int 0, .int 0, .int 0, .int 0, .int 0, .int 0, .int 0, .int 0, .int 0, .int 0, .null, .null, .null, .null, .null, .int 0, .int 0, .int 0, .int 0, .int 0, .int 0, .int 0]))] H := hP
  have hD : va_D (rz_A s.heap.size) [(k0, .inr (6, [.ref k1, .ref k5, .ref k6, .int 0, .int 0])), (k1, .inr (3, [.ref k2, .int 0, .ref k3, .int 0, .ref k4, .int 0, .int 0, .int 0, .int 32])), (k2, .inl (cA, 36, .inl (fun _ => 0))), (k3, .inl (cA, 36, .inl (fun _ => 0))), (k4, .inl (cA, 36, .inl (fun _ => 0))), (k5, .inr (5, [.ref k6, .ref k15, .ref k17, .int 0, .int 0, .int (-1)])), (k6, .inr (4, [.ref k7, .ref k14, .int 0, .int 0, .int 0, .int 0, .int 0, .int 3, .int 0, .int 0, .int (-1)])), (k7, .inr (2, [.ref k8, .ref k9, .ref k10, .ref k11, .ref k12, .ref k13, .int 1])), (k8, .inl (cA, 8, .inl (upd (fun _ => 0) 0 16128))), (k9, .inl (cA, 8, .inl (upd (fun _ => 0) 0 (-1)))), (k10, .inl (cA, 8, .inl (fun _ => 0))), (k11, .inl (cA, 8, .inl (fun _ => 0))), (k12, .inl (cA, 8, .inl (fun _ => 0))), (k13, .inl (cA, 192, .inl (fun _ => 0))), (k14, .inl (cA, 24, .inl (fun _ => 0))), (k15, .inr (1, [.ref k16, .int 0, .int 0, .int 0, .int 0])), (k16, .inl (cA, 40, .inl (fun _ => 0))), (k17, .inr (0, [.ref k18, .int 0, .int 0])), (k18, .inl (cA, 26, .inl (fun _ => 0))), (m0, .inr (7, [.null, .null, .null, .null, .null, .null, .int 0, .int 0, .int 0, .int 0, .int 0, .int 0, .int 0, .null, .int 0, .int 0, .int 0, .int 0, .int 0, .int 0, .int 0, .int 0, .int 0, .int 0, .int 0, .null, .null, .null, .null, .null, .int 0, .int 0, .int 0, .int 0, .int 0, .int 0, .int 0]))] := hD
  refine W.widen (k := 20) (n := 513) (Nat.le_of_ble_eq_true rfl) (Nat.le_of_ble_eq_true rfl) ?_
  refine lv_dup hx hb d_Lw_law_11 rfl ?_
  have hPc := hP.sub (ws' := [(m0, .inr (7, [.null, .null, .null, .null, .null, .null, .int 0, .int 0, .int 0, .int 0, .int 0, .int 0, .int 0, .null, .int 0, .int 0, .int 0, .int 0, .int 0, .int 0, .int 0, .int 0, .int 0, .int 0, .int 0, .null, .null, .null, .null, .null, .int 0, .int 0, .int 0, .int 0, .int 0, .int 0, .int 0]))]) [19] rfl
  have hDc := hD.sub (ws' := [(m0, .inr (7, [.null, .null, .null, .null, .null, .null, .int 0, .int 0, .int 0, .int 0, .int 0, .int 0, .int 0, .null, .int 0, .int 0, .int 0, .int 0, .int 0, .int 0, .int 0, .int 0, .int 0, .int 0, .int 0, .null, .null, .null, .null, .null, .int 0, .int 0, .int 0, .int 0, .int 0, .int 0, .int 0]))]) [19] (by decide) rfl
  have hFc := va_free (wc := [(m0, .inr (7, [.null, .null, .null, .null, .null, .null, .int 0, .int 0, .int 0, .int 0, .int 0, .int 0, .int 0, .null, .int 0, .int 0, .int 0, .int 0, .int 0, .int 0, .int 0, .int 0, .int 0, .int 0, .int 0, .null, .null, .null, .null, .null, .int 0, .int 0, .int 0, .int 0, .int 0, .int 0, .int 0]))]) hD hS hA [19] rfl
  refine va_callv (va_runI (As := []) (rest := [.ref m0]) ⟨hx, hb, hml, hown, hts⟩ (ci_Mo l D cA m0 H.size) (cwI 0 hts (rz_good wd_617) rfl rfl rfl (hts _ wd_47) (hts _ wd_615) (hts _ wd_616) rfl (by decide +kernel) ⟨Nat.le_of_ble_eq_true rfl, Nat.le_of_ble_eq_true rfl⟩) ⟨fun a U g mk q => by obtain ⟨q0, q1, qP, qK, qD, qN⟩ := q; exact ⟨q0, q1, qP, va_K.moved (u := U) (U := U.calling g mk a) (Vm.Alike.refl U.vm) qK, qD, nwa_same (u := U) (U := U.calling g mk a) rfl qN⟩, fun U hU hW => ⟨rfl, by rw [hU], by rw [hU]; exact hPc, va_K.moved hW.alike hK, hDc.weaken (fun _ _ _ _ => trivial), nwa_warm hW hNW⟩⟩ rfl rfl hl.1 rfl (lv_room (Nat.le_of_ble_eq_true rfl)) d_Lw_law_12 ⟨Nat.le_of_ble_eq_true rfl, Nat.le_of_ble_eq_true rfl⟩) hS (fun q _ h => hFc q h) hFc (fun u t H1 locs ht hvm hw hB hz1 hk1 hS => ?_)
  obtain ⟨m1, m2, m3, m4, m5, m6, m7, m8, m9, m10, m11, m12, hP1, hK1, hD1⟩ := hB
  rw [ht] at hP1
  obtain ⟨hP, hD⟩ := va_join (wr := [(k0, .inr (6, [.ref k1, .ref k5, .ref k6, .int 0, .int 0])), (k1, .inr (3, [.ref k2, .int 0, .ref k3, .int 0, .ref k4, .int 0, .int 0, .int 0, .int 32])), (k2, .inl (cA, 36, .inl (fun _ => 0))), (k3, .inl (cA, 36, .inl (fun _ => 0))), (k4, .inl (cA, 36, .inl (fun _ => 0))), (k5, .inr (5, [.ref k6, .ref k15, .ref k17, .int 0, .int 0, .int (-1)])), (k6, .inr (4, [.ref k7, .ref k14, .int 0, .int 0, .int 0, .int 0, .int 0, .int 3, .int 0, .int 0, .int (-1)])), (k7, .inr (2, [.ref k8, .ref k9, .ref k10, .ref k11, .ref k12, .ref k13, .int 1])), (k8, .inl (cA, 8, .inl (upd (fun _ => 0) 0 16128))), (k9, .inl (cA, 8, .inl (upd (fun _ => 0) 0 (-1)))), (k10, .inl (cA, 8, .inl (fun _ => 0))), (k11, .inl (cA, 8, .inl (fun _ => 0))), (k12, .inl (cA, 8, .inl (fun _ => 0))), (k13, .inl (cA, 192, .inl (fun _ => 0))), (k14, .inl (cA, 24, .inl (fun _ => 0))), (k15, .inr (1, [.ref k16, .int 0, .int 0, .int 0, .int 0])), (k16, .inl (cA, 40, .inl (fun _ => 0))), (k17, .inr (0, [.ref k18, .int 0, .int 0])), (k18, .inl (cA, 26, .inl (fun _ => 0)))]) (w1 := [(m0, .inr (7, [.ref m1, .ref m2, .ref m3, .ref m4, .ref m5, .ref m6, .int 1, .int 0, .int 3, .int 0, .int 0, .int 0, .int (-1), .ref m7, .int 0, .int 0, .int 0, .int 0, .int 0, .int 0, .int 0, .int 0, .int 0, .int 0, .int 0, .ref m8, .ref m9, .ref m10, .ref m11, .ref m12, .int 0, .int 0, .int 0, .int 0, .int 0, .int 0, .int 0])), (m1, .inl (cA, 8, .inl (upd (fun _ => 0) 0 16128))), (m2, .inl (cA, 8, .inl (upd (fun _ => 0) 0 (-1)))), (m3, .inl (cA, 8, .inl (fun _ => 0))), (m4, .inl (cA, 8, .inl (fun _ => 0))), (m5, .inl (cA, 8, .inl (fun _ => 0))), (m6, .inl (cA, 192, .inl (fun _ => 0))), (m7, .inl (cA, 24, .inl (fun _ => 0))), (m8, .inl (cA, 40, .inl (fun _ => 0))), (m9, .inl (cA, 40, .inl (fun _ => 0))), (m10, .inl (cA, 40, .inl (fun _ => 0))), (m11, .inl (cA, 40, .inl (fun _ => 0))), (m12, .inl (cA, 40, .inl (fun _ => 0)))]) hP hD [19] [0, 1, 2, 3, 4, 5, 6, 7, 8, 9, 10, 11, 12, 13, 14, 15, 16, 17, 18] rfl rfl (by decide) (by decide) hk1 hFc hP1 hD1
  generalize H1 = H at hP hS ⊢
  have hP : va_P D CL [(k0, .inr (6, [.ref k1, .ref k5, .ref k6, .int 0, .int 0])), (k1, .inr (3, [.ref k2, .int 0, .ref k3, .int 0, .ref k4, .int 0, .int 0, .int 0, .int 32])), (k2, .inl (cA, 36, .inl (fun _ => 0))), (k3, .inl (cA, 36, .inl (fun _ => 0))), (k4, .inl (cA, 36, .inl (fun _ => 0))), (k5, .inr (5, [.ref k6, .ref k15, .ref k17, .int 0, .int 0, .int (-1)])), (k6, .inr (4, [.ref k7, .ref k14, .int 0, .int 0, .int 0, .int 0, .int 0, .int 3, .int 0, .int 0, .int (-1)])), (k7, .inr (2, [.ref k8, .ref k9, .ref k10, .ref k11, .ref k12, .ref k13, .int 1])), (k8, .inl (cA, 8, .inl (upd (fun _ => 0) 0 16128))), (k9, .inl (cA, 8, .inl (upd (fun _ => 0) 0 (-1)))), (k10, .inl (cA, 8, .inl (fun _ => 0))), (k11, .inl (cA, 8, .inl (fun _ => 0))), (k12, .inl (cA, 8, .inl (fun _ => 0))), (k13, .inl (cA, 192, .inl (fun _ => 0))), (k14, .inl (cA, 24, .inl (fun _ => 0))), (k15, .inr (1, [.ref k16, .int 0, .int 0, .int 0, .int 0])), (k16, .inl (cA, 40, .inl (fun _ => 0))), (k17, .inr (0, [.ref k18, .int 0, .int 0])), (k18, .inl (cA, 26, .inl (fun _ => 0))), (m0, .inr (7, [.ref m1, .ref m2, .ref m3, .ref m4, .ref m5, .ref m6, .int 1, .int 0, .int 3, .int 0, .int 0, .int 0, .int (-1), .ref m7, .int 0, .int 0, .int 0, .int 0, .int 0, .int 0, .int 0, .int 0, .int 0, .int 0, .int 0, .ref m8, .ref m9, .ref m10, .ref m11, .ref m12, .int 0, .int 0, .int 0, .int 0, .int 0, .int 0, .int 0])), (m1, .inl (cA, 8, .inl (upd (fun _ => 0) 0 16128))), (m2, .inl (cA, 8, .inl (upd (fun _ => 0) 0 (-1)))), (m3, .inl (cA, 8, .inl (fun _ => 0))), (m4, .inl (cA, 8, .inl (fun _ => 0))), (m5, .inl (cA, 8, .inl (fun _ => 0))), (m6, .inl (cA, 192, .inl (fun _ => 0))), (m7, .inl (cA, 24, .inl (fun _ => 0))), (m8, .inl (cA, 40, .inl (fun _ => 0))), (m9, .inl (cA, 40, .inl (fun _ => 0))), (m10, .inl (cA, 40, .inl (fun _ => 0))), (m11, .inl (cA, 40, .inl (fun _ => 0))), (m12, .inl (cA, 40, .inl (fun _ => 0)))] H := hP
  have hD : va_D (rz_A s.heap.size) [(k0, .inr (6, [.ref k1, .ref k5, .ref k6, .int 0, .int 0])), (k1, .inr (3, [.ref k2, .int 0, .ref k3, .int 0, .ref k4, .int 0, .int 0, .int 0, .int 32])), (k2, .inl (cA, 36, .inl (fun _ => 0))), (k3, .inl (cA, 36, .inl (fun _ => 0))), (k4, .inl (cA, 36, .inl (fun _ => 0))), (k5, .inr (5, [.ref k6, .ref k15, .ref k17, .int 0, .int 0, .int (-1)])), (k6, .inr (4, [.ref k7, .ref k14, .int 0, .int 0, .int 0, .int 0, .int 0, .int 3, .int 0, .int 0, .int (-1)])), (k7, .inr (2, [.ref k8, .ref k9, .ref k10, .ref k11, .ref k12, .ref k13, .int 1])), (k8, .inl (cA, 8, .inl (upd (fun _ => 0) 0 16128))), (k9, .inl (cA, 8, .inl (upd (fun _ => 0) 0 (-1)))), (k10, .inl (cA, 8, .inl (fun _ => 0))), (k11, .inl (cA, 8, .inl (fun _ => 0))), (k12, .inl (cA, 8, .inl (fun _ => 0))), (k13, .inl (cA, 192, .inl (fun _ => 0))), (k14, .inl (cA, 24, .inl (fun _ => 0))), (k15, .inr (1, [.ref k16, .int 0, .int 0, .int 0, .int 0])), (k16, .inl (cA, 40, .inl (fun _ => 0))), (k17, .inr (0, [.ref k18, .int 0, .int 0])), (k18, .inl (cA, 26, .inl (fun _ => 0))), (m0, .inr (7, [.ref m1, .ref m2, .ref m3, .ref m4, .ref m5, .ref m6, .int 1, .int 0, .int 3, .int 0, .int 0, .int 0, .int (-1), .ref m7, .int 0, .int 0, .int 0, .int 0, .int 0, .int 0, .int 0, .int 0, .int 0, .int 0, .int 0, .ref m8, .ref m9, .ref m10, .ref m11, .ref m12, .int 0, .int 0, .int 0, .int 0, .int 0, .int 0, .int 0])), (m1, .inl (cA, 8, .inl (upd (fun _ => 0) 0 16128))), (m2, .inl (cA, 8, .inl (upd (fun _ => 0) 0 (-1)))), (m3, .inl (cA, 8, .inl (fun _ => 0))), (m4, .inl (cA, 8, .inl (fun _ => 0))), (m5, .inl (cA, 8, .inl (fun _ => 0))), (m6, .inl (cA, 192, .inl (fun _ => 0))), (m7, .inl (cA, 24, .inl (fun _ => 0))), (m8, .inl (cA, 40, .inl (fun _ => 0))), (m9, .inl (cA, 40, .inl (fun _ => 0))), (m10, .inl (cA, 40, .inl (fun _ => 0))), (m11, .inl (cA, 40, .inl (fun _ => 0))), (m12, .inl (cA, 40, .inl (fun _ => 0)))] := hD
  refine W.widen (k := 32) (n := 969) (Nat.le_of_ble_eq_true rfl) (Nat.le_of_ble_eq_true rfl) ?_
  refine lv_astore_n (lv' := [(2, .ref m0), (1, .ref k0), (0, .ref b)]) hx hb d_Lw_law_15 rfl hl (by decide) rfl (fun ls hl => ?_)
  have hP9 := hP.sub (ws' := [(k0, .inr (6, [.ref k1, .ref k5, .ref k6, .int 0, .int 0])), (k1, .inr (3, [.ref k2, .int 0, .ref k3, .int 0, .ref k4, .int 0, .int 0, .int 0, .int 32])), (k2, .inl (cA, 36, .inl (fun _ => 0))), (k3, .inl (cA, 36, .inl (fun _ => 0))), (k4, .inl (cA, 36, .inl (fun _ => 0))), (k5, .inr (5, [.ref k6, .ref k15, .ref k17, .int 0, .int 0, .int (-1)])), (k6, .inr (4, [.ref k7, .ref k14, .int 0, .int 0, .int 0, .int 0, .int 0, .int 3, .int 0, .int 0, .int (-1)])), (k7, .inr (2, [.ref k8, .ref k9, .ref k10, .ref k11, .ref k12, .ref k13, .int 1])), (k8, .inl (cA, 8, .inl (upd (fun _ => 0) 0 16128))), (k9, .inl (cA, 8, .inl (upd (fun _ => 0) 0 (-1)))), (k10, .inl (cA, 8, .inl (fun _ => 0))), (k11, .inl (cA, 8, .inl (fun _ => 0))), (k12, .inl (cA, 8, .inl (fun _ => 0))), (k13, .inl (cA, 192, .inl (fun _ => 0))), (k14, .inl (cA, 24, .inl (fun _ => 0))), (k15, .inr (1, [.ref k16, .int 0, .int 0, .int 0, .int 0])), (k16, .inl (cA, 40, .inl (fun _ => 0))), (k17, .inr (0, [.ref k18, .int 0, .int 0])), (k18, .inl (cA, 26, .inl (fun _ => 0))), (m0, .inr (7, [.ref m1, .ref m2, .ref m3, .ref m4, .ref m5, .ref m6, .int 1, .int 0, .int 3, .int 0, .int 0, .int 0, .int (-1), .ref m7, .int 0, .int 0, .int 0, .int 0, .int 0, .int 0, .int 0, .int 0, .int 0, .int 0, .int 0, .ref m8, .ref m9, .ref m10, .ref m11, .ref m12, .int 0, .int 0, .int 0, .int 0, .int 0, .int 0, .int 0])), (m1, .inl (cA, 8, .inl (upd (fun _ => 0) 0 16128))), (m2, .inl (cA, 8, .inl (upd (fun _ => 0) 0 (-1)))), (m3, .inl (cA, 8, .inl (fun _ => 0))), (m4, .inl (cA, 8, .inl (fun _ => 0))), (m5, .inl (cA, 8, .inl (fun _ => 0))), (m6, .inl (cA, 192, .inl (fun _ => 0))), (m7, .inl (cA, 24, .inl (fun _ => 0))), (m8, .inl (cA, 40, .inl (fun _ => 0))), (m9, .inl (cA, 40, .inl (fun _ => 0))), (m10, .inl (cA, 40, .inl (fun _ => 0))), (m11, .inl (cA, 40, .inl (fun _ => 0))), (m12, .inl (cA, 40, .inl (fun _ => 0)))]) [0, 1, 2, 3, 4, 5, 6, 7, 8, 9, 10, 11, 12, 13, 14, 15, 16, 17, 18, 19, 20, 21, 22, 23, 24, 25, 26, 27, 28, 29, 30, 31] rfl
  have hD9 := hD.sub (ws' := [(k0, .inr (6, [.ref k1, .ref k5, .ref k6, .int 0, .int 0])), (k1, .inr (3, [.ref k2, .int 0, .ref k3, .int 0, .ref k4, .int 0, .int 0, .int 0, .int 32])), (k2, .inl (cA, 36, .inl (fun _ => 0))), (k3, .inl (cA, 36, .inl (fun _ => 0))), (k4, .inl (cA, 36, .inl (fun _ => 0))), (k5, .inr (5, [.ref k6, .ref k15, .ref k17, .int 0, .int 0, .int (-1)])), (k6, .inr (4, [.ref k7, .ref k14, .int 0, .int 0, .int 0, .int 0, .int 0, .int 3, .int 0, .int 0, .int (-1)])), (k7, .inr (2, [.ref k8, .ref k9, .ref k10, .ref k11, .ref k12, .ref k13, .int 1])), (k8, .inl (cA, 8, .inl (upd (fun _ => 0) 0 16128))), (k9, .inl (cA, 8, .inl (upd (fun _ => 0) 0 (-1)))), (k10, .inl (cA, 8, .inl (fun _ => 0))), (k11, .inl (cA, 8, .inl (fun _ => 0))), (k12, .inl (cA, 8, .inl (fun _ => 0))), (k13, .inl (cA, 192, .inl (fun _ => 0))), (k14, .inl (cA, 24, .inl (fun _ => 0))), (k15, .inr (1, [.ref k16, .int 0, .int 0, .int 0, .int 0])), (k16, .inl (cA, 40, .inl (fun _ => 0))), (k17, .inr (0, [.ref k18, .int 0, .int 0])), (k18, .inl (cA, 26, .inl (fun _ => 0))), (m0, .inr (7, [.ref m1, .ref m2, .ref m3, .ref m4, .ref m5, .ref m6, .int 1, .int 0, .int 3, .int 0, .int 0, .int 0, .int (-1), .ref m7, .int 0, .int 0, .int 0, .int 0, .int 0, .int 0, .int 0, .int 0, .int 0, .int 0, .int 0, .ref m8, .ref m9, .ref m10, .ref m11, .ref m12, .int 0, .int 0, .int 0, .int 0, .int 0, .int 0, .int 0])), (m1, .inl (cA, 8, .inl (upd (fun _ => 0) 0 16128))), (m2, .inl (cA, 8, .inl (upd (fun _ => 0) 0 (-1)))), (m3, .inl (cA, 8, .inl (fun _ => 0))), (m4, .inl (cA, 8, .inl (fun _ => 0))), (m5, .inl (cA, 8, .inl (fun _ => 0))), (m6, .inl (cA, 192, .inl (fun _ => 0))), (m7, .inl (cA, 24, .inl (fun _ => 0))), (m8, .inl (cA, 40, .inl (fun _ => 0))), (m9, .inl (cA, 40, .inl (fun _ => 0))), (m10, .inl (cA, 40, .inl (fun _ => 0))), (m11, .inl (cA, 40, .inl (fun _ => 0))), (m12, .inl (cA, 40, .inl (fun _ => 0)))]) [0, 1, 2, 3, 4, 5, 6, 7, 8, 9, 10, 11, 12, 13, 14, 15, 16, 17, 18, 19, 20, 21, 22, 23, 24, 25, 26, 27, 28, 29, 30, 31] (by decide) rfl
  rw [← ws_eq (cA := cA) k0 k1 k2 k3 k4 k5 k6 k7 k8 k9 k10 k11 k12 k13 k14 k15 k16 k17 k18 m0 m1 m2 m3 m4 m5 m6 m7 m8 m9 m10 m11 m12 b] at hP9 hD9
  exact law_run hL C0 hts hNW hK rfl rfl rfl hP9 hD9 hS hl
