/-! CALLS AND CONTRACTS in the embedding. A contract: a transformer C of predicates over (arguments, memory), and 'Met' of the method for whatever C gives. -/
def rz_tk : Nat → List Value → List Value → Option (List Value × List Value)
  | 0, st, acc => some (acc, st)
  | _ + 1, [], _ => none
  | n + 1, v :: st, acc => rz_tk n st (v :: acc)
theorem rz_tk_spec : ∀ (n : Nat) (st acc a r : List Value), rz_tk n st acc = some (a, r) → ∃ pre : List Value, a = pre ++ acc ∧ st = pre.reverse ++ r ∧ pre.length = n
  | 0, st, acc, a, r, h => by
    have := Option.some.inj h
    exact ⟨[], by rw [(Prod.mk.inj this).1]; rfl, by rw [(Prod.mk.inj this).2]; rfl, rfl⟩
  | n + 1, [], acc, a, r, h => by simp [rz_tk] at h
  | n + 1, v :: st, acc, a, r, h => by
    obtain ⟨pre, h1, h2, h3⟩ := rz_tk_spec n st (v :: acc) a r h
    exact ⟨pre ++ [v], by rw [h1]; simp, by rw [h2]; simp, by simp [h3]⟩
def rz_isc (sh : List rz_Sh) (ci k : Nat) : Bool := match rz_nth sh k with
  | some (.inr (c, _)) => Nat.beq c ci
  | _ => false
theorem rz_isc_spec {sh : List rz_Sh} {ci k : Nat} (h : rz_isc sh ci k = true) : ∃ fs, sh[k]? = some (.inr (ci, fs)) := by
  unfold rz_isc at h
  split at h
  · next c fs hq =>
    rw [rz_nth_eq] at hq
    have : c = ci := Nat.eq_of_beq_eq_true h
    subst this
    exact ⟨fs, hq⟩
  · cases h
def rz_Pre (sh : List rz_Sh) (cl : List vw_C) (E : rz_E) (As : List Value) (μ : rz_M) : Array Value → State → Prop := match E with
  | (_, D, ad, cA, N0) => va_Pc (As.map (rz_v ad)) (fun U => N0 ≤ U.heap.size ∧ va_P D cl (rz_ws ad cA sh μ) U.heap ∧ va_K D cl [(cA, .int)] U ∧ va_D (rz_A N0) (rz_ws ad cA sh μ) ∧ ∀ w ∈ rz_nw, va_Nw w U)
def rz_B (sh : List rz_Sh) (cl : List vw_C) (E : rz_E) : rz_M → State → Prop := match E with
  | (_, D, ad, cA, N0) => fun μ t => va_P D cl (rz_ws ad cA sh μ) t.heap ∧ va_K D cl [(cA, .int)] t ∧ va_D (rz_A N0) (rz_ws ad cA sh μ)
def rz_MI (sh : List rz_Sh) (cl : List vw_C) (E : rz_E) (y : MethodName) (mL : Nat) (ws : List Cond) (rm : Room) (C : rz_C) : Prop :=
  ∀ (As : List Value) (μ : rz_M) (P : rz_P), rz_cs As ≤ mL → C As μ P → Met E.1 y ws rm (rz_Pre sh cl E As μ) (va_Qi (fun (r : Int32) (u : rz_M) => P (some (.int r)) u) (rz_B sh cl E) (rz_A E.2.2.2.2)) 0 0 (rz_A E.2.2.2.2)
def rz_MV (sh : List rz_Sh) (cl : List vw_C) (E : rz_E) (y : MethodName) (mL : Nat) (ws : List Cond) (rm : Room) (C : rz_C) : Prop :=
  ∀ (As : List Value) (μ : rz_M) (P : rz_P), rz_cs As ≤ mL → C As μ P → Met E.1 y ws rm (rz_Pre sh cl E As μ) (va_Qv (fun (u : rz_M) => P none u) (rz_B sh cl E) (rz_A E.2.2.2.2)) 0 0 (rz_A E.2.2.2.2)
theorem rz_blind {sh : List rz_Sh} {cl : List vw_C} {E : rz_E} {As : List Value} {μ : rz_M} : FrameBlind (rz_Pre sh cl E As μ) := by
  obtain ⟨l, D, ad, cA, N0⟩ := E
  intro a U g mk q
  obtain ⟨q0, q1, qP, qK, qD, qN⟩ := q
  exact ⟨q0, q1, qP, va_K.moved (u := U) (U := U.calling g mk a) (Vm.Alike.refl U.vm) qK, qD, fun w hw => va_Nw.same (u := U) (U := U.calling g mk a) (rz_nw_tab w hw) rfl (qN w hw)⟩
/-- what is the same at every call of a method: its words are among the caller's, its class and number of parameters -/
def rz_Cd (Ts : List Cond) (y : MethodName) (bytes : ByteArray) (maxL : Nat) (ret : Option FieldType) (ws : List Cond) (k : Nat) (rmc : Room) : Prop :=
  GoodIn Ts ws ∧ (∃ ws', ws = Cond.code y bytes maxL ret :: ws') ∧ Cond.initialized y.cls ∈ Ts ∧ (y.cls ≠ "java/lang/invoke/MethodHandle" ∧ y.cls ≠ "java/lang/invoke/VarHandle" ∧ (parseMethodDescriptor y.desc).map (fun d => d.parameters.length) = some k) ∧ rmc.cells = 0 ∧ rmc.slots = 0
def tz_cv (sh : List rz_Sh) (k ci mL : Nat) (C : rz_C) : rz_T := fun _ _ K ls st μ => match rz_tk (k + 1) st [] with
  | some (.ref o :: As, r) => (match rz_isc sh ci o && (Nat.ble (rz_cs r) 8 && Nat.ble (rz_cs (.ref o :: As)) mL) with
    | true => C (.ref o :: As) μ (fun v μ' => K ls (v.toList ++ r) μ')
    | false => False)
  | _ => False
def tz_cs (k mL : Nat) (C : rz_C) : rz_T := fun _ _ K ls st μ => match rz_tk k st [] with
  | some (As, r) => (match Nat.ble (rz_cs r) 8 && Nat.ble (rz_cs As) mL with
    | true => C As μ (fun v μ' => K ls (v.toList ++ r) μ')
    | false => False)
  | _ => False
section RZC
variable {sh : List rz_Sh} {cl : List vw_C} {X : rz_X} {bp : Nat → Nat} {RT : rz_P → Prop} {pc : Nat} {cc : ByteArray} {n : Nat} {Ts : List Cond} {own : String} {rm : Room}
variable {y : MethodName} {bytes : ByteArray} {maxL : Nat} {ret : Option FieldType} {ws : List Cond} {k idx ci : Nat} {rmc : Room} {C : rz_C} {q : vw_C}
theorem rz_cv_spec {P : rz_P} {J : Nat → rz_K} {K : rz_K} {ls : rz_L} {st : List Value} {μ : rz_M} {mL : Nat} (h : tz_cv sh k ci mL C P J K ls st μ) :
    ∃ (o : Nat) (As r : List Value) (fs : List (Option Nat)), st = As.reverse ++ .ref o :: r ∧ As.length = k ∧ sh[o]? = some (.inr (ci, fs)) ∧ rz_cs r ≤ 8 ∧ rz_cs (.ref o :: As) ≤ mL ∧ C (.ref o :: As) μ (fun v μ' => K ls (v.toList ++ r) μ') := by
  unfold tz_cv at h
  split at h
  · next o As r hq =>
    split at h
    · next hb =>
      obtain ⟨b1, b23⟩ := Bool.and_eq_true_iff.mp hb
      obtain ⟨b2, b3⟩ := Bool.and_eq_true_iff.mp b23
      obtain ⟨pre, h1, h2, h3⟩ := rz_tk_spec _ _ _ _ _ hq
      rw [List.append_nil] at h1
      subst h1
      obtain ⟨fs, hf⟩ := rz_isc_spec b1
      exact ⟨o, As, r, fs, by rw [h2]; simp, by simpa using h3, hf, Nat.le_of_ble_eq_true b2, Nat.le_of_ble_eq_true b3, h⟩
    · exact h.elim
  · exact h.elim
theorem rz_cs_spec {P : rz_P} {J : Nat → rz_K} {K : rz_K} {ls : rz_L} {st : List Value} {μ : rz_M} {mL : Nat} (h : tz_cs k mL C P J K ls st μ) :
    ∃ (As r : List Value), st = As.reverse ++ r ∧ As.length = k ∧ rz_cs r ≤ 8 ∧ rz_cs As ≤ mL ∧ C As μ (fun v μ' => K ls (v.toList ++ r) μ') := by
  unfold tz_cs at h
  split at h
  · next As r hq =>
    split at h
    · next hb =>
      obtain ⟨b2, b3⟩ := Bool.and_eq_true_iff.mp hb
      obtain ⟨pre, h1, h2, h3⟩ := rz_tk_spec _ _ _ _ _ hq
      rw [List.append_nil] at h1
      subst h1
      exact ⟨As, r, h2, h3, Nat.le_of_ble_eq_true b2, Nat.le_of_ble_eq_true b3, h⟩
    · exact h.elim
  · exact h.elim
theorem rz_cvi (G : rz_Cx cl X cc n Ts own rm) (hM : rz_MI sh cl X.1 y maxL ws rmc C) (hC : rz_Cd Ts y bytes maxL ret ws k rmc) (hl : Cond.methodLink own idx y ∈ Ts) (hin : Cond.instanceMethod y ∈ Ts) (hse : Cond.selects y.cls y y ∈ Ts) (hc : cl[ci]? = some q) (hq : q.1 = y.cls)
    (hR : rmc.frames + 1 ≤ rm.frames ∧ 8 + (maxL + 11) + rmc.locals ≤ rm.locals) (hd : decode cc pc = .ok (.invokevirtual idx, 3)) : rz_Snd sh cl X bp RT (tz_cv sh k ci maxL C) pc (pc + 3) := by
  obtain ⟨⟨l, D, ad, cA, N0⟩, p, e, R, s, m, args, below, meth, c, Q, cells, slots, nL⟩ := X
  obtain ⟨⟨hx, hb, hml, hown, hts⟩, hK, hN, hce, hsl, hRm, hnL, hNw⟩ := G
  subst hRm
  obtain ⟨hG, ⟨ws', hw⟩, hini, hds, hrc, hrs⟩ := hC
  intro P J K hRt hJ hk ls st μ h
  obtain ⟨o, As, r, fs, rfl, hlen, hsh, hcs, hmx, hCC⟩ := rz_cv_spec h
  intro la H locs hlv hP hD hS
  refine va_calli (va_runV (g := F0 m pc la ((As.reverse ++ .ref o :: r).map (rz_v ad))) (As := As.map (rz_v ad)) (rest := r.map (rz_v ad)) (b := ad o) (C := y.cls) (n := k) (nL := nL) ⟨hx, hb, hml, hown, hts⟩ (hM (.ref o :: As) μ _ hmx hCC) ⟨callB_of k hts hG hw hrc hrs (hts _ hini) (hts _ hl) hds hR, hts _ hin, hts _ hse⟩ ⟨rz_blind, ?_, fun U hU hW => ⟨rfl, ?_, by rw [hU]; exact hP, va_K.moved hW.alike hK, hD, fun w hw => rz_nw_warm w hw hW (hNw w hw)⟩⟩ rfl (by rw [List.length_map]; exact hlen) hlv.1 (by simp [List.map_append, List.map_reverse, rz_v]) (lv_room (by rw [rz_cs_eq]; exact hcs)) hd ⟨hce, hsl⟩) hS (fun _ _ z => z) (fun _ z => z) (fun r1 u t H1 locs1 ht hvm hw1 hB hz1 hk1 hS1 => ?_)
  · have := va_recv hK hP hc (rz_ws_at hsh)
    rw [hq] at this
    exact this
  · rw [hU]; exact Nat.le_trans hN hS.1
  · obtain ⟨hP1, hK1, hD1⟩ := hB
    rw [ht] at hP1
    exact hk _ _ _ hw1 la H1 locs1 hlv hP1 hD1 hS1
theorem rz_cvv (G : rz_Cx cl X cc n Ts own rm) (hM : rz_MV sh cl X.1 y maxL ws rmc C) (hC : rz_Cd Ts y bytes maxL ret ws k rmc) (hl : Cond.methodLink own idx y ∈ Ts) (hin : Cond.instanceMethod y ∈ Ts) (hse : Cond.selects y.cls y y ∈ Ts) (hc : cl[ci]? = some q) (hq : q.1 = y.cls)
    (hR : rmc.frames + 1 ≤ rm.frames ∧ 8 + (maxL + 11) + rmc.locals ≤ rm.locals) (hd : decode cc pc = .ok (.invokevirtual idx, 3)) : rz_Snd sh cl X bp RT (tz_cv sh k ci maxL C) pc (pc + 3) := by
  obtain ⟨⟨l, D, ad, cA, N0⟩, p, e, R, s, m, args, below, meth, c, Q, cells, slots, nL⟩ := X
  obtain ⟨⟨hx, hb, hml, hown, hts⟩, hK, hN, hce, hsl, hRm, hnL, hNw⟩ := G
  subst hRm
  obtain ⟨hG, ⟨ws', hw⟩, hini, hds, hrc, hrs⟩ := hC
  intro P J K hRt hJ hk ls st μ h
  obtain ⟨o, As, r, fs, rfl, hlen, hsh, hcs, hmx, hCC⟩ := rz_cv_spec h
  intro la H locs hlv hP hD hS
  refine va_callv (va_runV (g := F0 m pc la ((As.reverse ++ .ref o :: r).map (rz_v ad))) (As := As.map (rz_v ad)) (rest := r.map (rz_v ad)) (b := ad o) (C := y.cls) (n := k) (nL := nL) ⟨hx, hb, hml, hown, hts⟩ (hM (.ref o :: As) μ _ hmx hCC) ⟨callB_of k hts hG hw hrc hrs (hts _ hini) (hts _ hl) hds hR, hts _ hin, hts _ hse⟩ ⟨rz_blind, ?_, fun U hU hW => ⟨rfl, ?_, by rw [hU]; exact hP, va_K.moved hW.alike hK, hD, fun w hw => rz_nw_warm w hw hW (hNw w hw)⟩⟩ rfl (by rw [List.length_map]; exact hlen) hlv.1 (by simp [List.map_append, List.map_reverse, rz_v]) (lv_room (by rw [rz_cs_eq]; exact hcs)) hd ⟨hce, hsl⟩) hS (fun _ _ z => z) (fun _ z => z) (fun u t H1 locs1 ht hvm hw1 hB hz1 hk1 hS1 => ?_)
  · have := va_recv hK hP hc (rz_ws_at hsh)
    rw [hq] at this
    exact this
  · rw [hU]; exact Nat.le_trans hN hS.1
  · obtain ⟨hP1, hK1, hD1⟩ := hB
    rw [ht] at hP1
    exact hk _ _ _ hw1 la H1 locs1 hlv hP1 hD1 hS1
theorem rz_csi (G : rz_Cx cl X cc n Ts own rm) (hM : rz_MI sh cl X.1 y maxL ws rmc C) (hC : rz_Cd Ts y bytes maxL ret ws k rmc) (hl : Cond.methodLink own idx y ∈ Ts) (hst : Cond.static y ∈ Ts)
    (hR : rmc.frames + 1 ≤ rm.frames ∧ 8 + (maxL + 11) + rmc.locals ≤ rm.locals) (hd : decode cc pc = .ok (.invokestatic idx, 3)) : rz_Snd sh cl X bp RT (tz_cs k maxL C) pc (pc + 3) := by
  obtain ⟨⟨l, D, ad, cA, N0⟩, p, e, R, s, m, args, below, meth, c, Q, cells, slots, nL⟩ := X
  obtain ⟨⟨hx, hb, hml, hown, hts⟩, hK, hN, hce, hsl, hRm, hnL, hNw⟩ := G
  subst hRm
  obtain ⟨hG, ⟨ws', hw⟩, hini, hds, hrc, hrs⟩ := hC
  intro P J K hRt hJ hk ls st μ h
  obtain ⟨As, r, rfl, hlen, hcs, hmx, hCC⟩ := rz_cs_spec h
  intro la H locs hlv hP hD hS
  refine va_calli (va_runS (g := F0 m pc la ((As.reverse ++ r).map (rz_v ad))) (As := As.map (rz_v ad)) (rest := r.map (rz_v ad)) (n := k) (nL := nL) ⟨hx, hb, hml, hown, hts⟩ (hM As μ _ hmx hCC) ⟨callB_of k hts hG hw hrc hrs (hts _ hini) (hts _ hl) hds hR, hts _ hst⟩ ⟨rz_blind, fun U hU hW => ⟨rfl, ?_, by rw [hU]; exact hP, va_K.moved hW.alike hK, hD, fun w hw => rz_nw_warm w hw hW (hNw w hw)⟩⟩ rfl (by rw [List.length_map]; exact hlen) hlv.1 (by simp [List.map_append, List.map_reverse]) (lv_room (by rw [rz_cs_eq]; exact hcs)) hd ⟨hce, hsl⟩) hS (fun _ _ z => z) (fun _ z => z) (fun r1 u t H1 locs1 ht hvm hw1 hB hz1 hk1 hS1 => ?_)
  · rw [hU]; exact Nat.le_trans hN hS.1
  · obtain ⟨hP1, hK1, hD1⟩ := hB
    rw [ht] at hP1
    exact hk _ _ _ hw1 la H1 locs1 hlv hP1 hD1 hS1
end RZC
/-! returns, and a method's contract out of its blocks -/
def tz_iret : rz_T := fun P _ _ _ st μ => match st with
  | [.int v] => P (some (.int v)) μ
  | _ => False
def tz_zret : rz_T := fun P _ _ _ st μ => match st with
  | [.int v] => (v = 0 ∨ v = 1) ∧ P (some (.int v)) μ
  | _ => False
def tz_vret : rz_T := fun P _ _ _ st μ => match st with
  | [] => P none μ
  | _ => False
/-- the way out: ok says which ints may be given back -/
def rz_RI (sh : List rz_Sh) (cl : List vw_C) (X : rz_X) (cc : ByteArray) (ok : Int32 → Prop) (P : rz_P) : Prop :=
  ∀ (pc : Nat) (v : Int32) (ls : rz_L) (μ : rz_M), decode cc pc = .ok (.ireturn, 1) → ok v → P (some (.int v)) μ → rz_W sh cl X pc ls [.int v] μ
def rz_RV (sh : List rz_Sh) (cl : List vw_C) (X : rz_X) (cc : ByteArray) (P : rz_P) : Prop :=
  ∀ (pc : Nat) (ls : rz_L) (μ : rz_M), decode cc pc = .ok (.return_, 1) → P none μ → rz_W sh cl X pc ls [] μ
section RZR
variable {sh : List rz_Sh} {cl : List vw_C} {X : rz_X} {bp : Nat → Nat} {pc npc : Nat} {cc : ByteArray} {ok : Int32 → Prop}
theorem rz_iret (hok : ∀ v, ok v) (hd : decode cc pc = .ok (.ireturn, 1)) : rz_Snd sh cl X bp (rz_RI sh cl X cc ok) tz_iret pc npc := by
  intro P J K hR hJ hk ls st μ h
  unfold tz_iret at h
  split at h
  · exact hR pc _ ls μ hd (hok _) h
  · exact h.elim
theorem rz_zret (hok : ∀ v, v = 0 ∨ v = 1 → ok v) (hd : decode cc pc = .ok (.ireturn, 1)) : rz_Snd sh cl X bp (rz_RI sh cl X cc ok) tz_zret pc npc := by
  intro P J K hR hJ hk ls st μ h
  unfold tz_zret at h
  split at h
  · exact hR pc _ ls μ hd (hok _ h.1) h.2
  · exact h.elim
theorem rz_vret (hd : decode cc pc = .ok (.return_, 1)) : rz_Snd sh cl X bp (rz_RV sh cl X cc) tz_vret pc npc := by
  intro P J K hR hJ hk ls st μ h
  unfold tz_vret at h
  split at h
  · exact hR pc ls μ hd h
  · exact h.elim
end RZR
/-- the locals at a method's entry -/
def rz_ent : List Value → rz_L
  | [] => []
  | v :: t => match rz_one v with
    | true => some v :: rz_ent t
    | false => some v :: none :: rz_ent t
def rz_pad : Nat → rz_L → rz_L
  | 0, ls => ls
  | n + 1, [] => none :: rz_pad n []
  | n + 1, v :: t => v :: rz_pad n t
theorem rz_pad_lg : ∀ (n : Nat) (ls : rz_L) (i : Nat) (v : Value), rz_lg (rz_pad n ls) i = some v → rz_lg ls i = some v
  | 0, ls, i, v, h => h
  | n + 1, [], 0, v, h => by simp [rz_pad, rz_lg] at h
  | n + 1, [], i + 1, v, h => by
    have := rz_pad_lg n [] i v h
    simp [rz_lg] at this
  | n + 1, a :: t, 0, v, h => h
  | n + 1, a :: t, i + 1, v, h => rz_pad_lg n t i v h
theorem rz_cat2 {v : Value} (h : rz_one v = false) : v.category = 2 := by cases v <;> first | rfl | cases h
theorem rz_cat1 {v : Value} (h : rz_one v = true) : v.category = 1 := by cases v <;> first | rfl | cases h
theorem rz_ent_ps (ad : Nat → Nat) : ∀ (vs : List Value) (k : Nat) (q : Nat × Value), q ∈ rz_ps ad k (rz_ent vs) → q ∈ lv_args k (vs.map (rz_v ad))
  | [], k, q, h => by simp [rz_ent, rz_ps] at h
  | v :: t, k, q, h => by
    unfold rz_ent at h
    rw [List.map_cons, lv_args, rz_v_cat]
    split at h
    · next h1 =>
      rw [rz_cat1 h1, if_neg (by decide)]
      rw [rz_ps] at h
      rcases List.mem_cons.mp h with h | h
      · rw [h]; exact List.mem_cons_self
      · exact List.mem_cons_of_mem _ (rz_ent_ps ad t (k + 1) q h)
    · next h1 =>
      rw [rz_cat2 h1, if_pos rfl]
      rw [rz_ps, rz_ps] at h
      rcases List.mem_cons.mp h with h | h
      · rw [h]; exact List.mem_cons_self
      · exact List.mem_cons_of_mem _ (rz_ent_ps ad t (k + 2) q h)
theorem rz_sl_len (ad : Nat → Nat) : ∀ vs : List Value, (lg_sl (vs.map (rz_v ad))).length = rz_cs vs
  | [] => rfl
  | v :: t => by
    have ih := rz_sl_len ad t
    unfold lg_sl at ih ⊢
    rw [List.map_cons, List.flatMap_cons, List.length_append, ih, rz_v_cat, rz_cs]
    by_cases h : rz_one v = true
    · rw [rz_cat1 h]; rfl
    · rw [rz_cat2 (by simpa using h)]; rfl
theorem rz_entry {ad : Nat → Nat} {vs : List Value} {n : Nat} (h : rz_cs vs ≤ n) : lv_has ((lg_sl (vs.map (rz_v ad)) ++ List.replicate (n - (lg_sl (vs.map (rz_v ad))).length) Slot.unset).toArray) n (rz_ps ad 0 (rz_pad n (rz_ent vs))) := by
  have hl := lv_entry (vs.map (rz_v ad)) (n := n) (by rw [rz_sl_len]; exact h)
  refine ⟨hl.1, hl.2.1, fun q hq => hl.2.2 q ?_⟩
  refine rz_ent_ps ad vs 0 q ?_
  obtain ⟨j, v, e, hj⟩ := (rz_ps_mem ad _ 0 q).mp hq
  exact (rz_ps_mem ad _ 0 q).mpr ⟨j, v, e, rz_pad_lg _ _ _ _ hj⟩
/-- a method that gives an int: sound blocks, and a walk of the blocks by whatever the contract gives -/
theorem rz_metI {sh : List rz_Sh} {cl : List vw_C} {E : rz_E} {y : MethodName} {cc : ByteArray} {maxL : Nat} {ty : FieldType} {Ts : List Cond} {rm : Room} {C : rz_C} {bk : Nat → List rz_T} {bp : Nat → Nat}
    (hy : plainName y.cls = true) (h0 : bp 0 = 0)
    (hs : ∀ X : rz_X, X.1 = E → rz_Cx cl X cc maxL Ts y.cls rm → ∀ b, rz_SB sh cl X bp (rz_RI sh cl X cc (fun v => narrow ty (.int v) = .int v)) (bk b) (bp b))
    (hb : ∀ (Y : Nat → rz_K) (P : rz_P), (∀ b ls st μ, rz_ex P Y (bk b) ls st μ → Y b ls st μ) → ∀ As μ, C As μ P → Y 0 (rz_pad maxL (rz_ent As)) [] μ) :
    rz_MI sh cl E y maxL (Cond.code y cc maxL (some ty) :: Ts) rm C := by
  obtain ⟨l, D, ad, cA, N0⟩ := E
  intro As μ P hAs hC
  refine Met.ofW (cc := cc) (maxL := maxL) (ret := (some ty)) hy rfl ?_
  intro p e s m args below meth c s₁ B hml hv
  obtain ⟨rfl, hN, hP, hK, hD, hNw⟩ := hv
  have hts := atoms_spec (ws := Cond.code y cc maxL (some ty) :: Ts) B.pre
  have hown : s.vm.findClass y.cls = some m.cls := findClass_of_methodNamed B.named
  have hx := B.exec
  have hbb := B.bytes
  have hr := B.returns
  have hlocks := B.notSynchronized
  have G : rz_Cx cl ((l, D, ad, cA, N0), p, e, rm, s, m, (As.map (rz_v ad)).toArray, below, meth, c, MQ below (va_Qi (fun (r : Int32) (u : rz_M) => P (some (.int r)) u) (rz_B sh cl (l, D, ad, cA, N0)) (rz_A N0)) (As.map (rz_v ad)).toArray s 0 0 (rz_A N0), 0, 0, maxL) cc maxL Ts y.cls rm :=
    ⟨⟨hx, hbb, hml, hown, fun w h => hts w (List.mem_cons_of_mem _ h)⟩, hK, hN, Nat.zero_le _, Nat.zero_le _, rfl, rfl, hNw⟩
  have key := hb (fun b => rz_W sh cl ((l, D, ad, cA, N0), p, e, rm, s, m, (As.map (rz_v ad)).toArray, below, meth, c, MQ below (va_Qi (fun (r : Int32) (u : rz_M) => P (some (.int r)) u) (rz_B sh cl (l, D, ad, cA, N0)) (rz_A N0)) (As.map (rz_v ad)).toArray s 0 0 (rz_A N0), 0, 0, maxL) (bp b)) P
    (fun b ls st μ h => hs _ rfl G b P _ (fun pc v ls μ hd hok hp => ?_) (fun _ _ _ _ z => z) ls st μ h) As μ hC
  · rw [lg_entry_eq]
    rw [h0] at key
    exact key _ s.heap [] (rz_entry hAs) hP hD va_S.rf
  · intro la H locs hl hP hD hS
    exact W.zret hx hbb hr hok (fun t ht hW => ⟨⟨v, μ, rfl, hp, by rw [ht]; exact hP, va_K.moved hW.alike hK, hD⟩, hS.F ht⟩) hS.2.2 hd
/-- a method that gives nothing: sound blocks, and a walk of the blocks by whatever the contract gives -/
theorem rz_metV {sh : List rz_Sh} {cl : List vw_C} {E : rz_E} {y : MethodName} {cc : ByteArray} {maxL : Nat} {Ts : List Cond} {rm : Room} {C : rz_C} {bk : Nat → List rz_T} {bp : Nat → Nat}
    (hy : plainName y.cls = true) (h0 : bp 0 = 0)
    (hs : ∀ X : rz_X, X.1 = E → rz_Cx cl X cc maxL Ts y.cls rm → ∀ b, rz_SB sh cl X bp (rz_RV sh cl X cc) (bk b) (bp b))
    (hb : ∀ (Y : Nat → rz_K) (P : rz_P), (∀ b ls st μ, rz_ex P Y (bk b) ls st μ → Y b ls st μ) → ∀ As μ, C As μ P → Y 0 (rz_pad maxL (rz_ent As)) [] μ) :
    rz_MV sh cl E y maxL (Cond.code y cc maxL none :: Ts) rm C := by
  obtain ⟨l, D, ad, cA, N0⟩ := E
  intro As μ P hAs hC
  refine Met.ofW (cc := cc) (maxL := maxL) (ret := none) hy rfl ?_
  intro p e s m args below meth c s₁ B hml hv
  obtain ⟨rfl, hN, hP, hK, hD, hNw⟩ := hv
  have hts := atoms_spec (ws := Cond.code y cc maxL none :: Ts) B.pre
  have hown : s.vm.findClass y.cls = some m.cls := findClass_of_methodNamed B.named
  have hx := B.exec
  have hbb := B.bytes
  have hr := B.returns
  have hlocks := B.notSynchronized
  have G : rz_Cx cl ((l, D, ad, cA, N0), p, e, rm, s, m, (As.map (rz_v ad)).toArray, below, meth, c, MQ below (va_Qv (fun (u : rz_M) => P none u) (rz_B sh cl (l, D, ad, cA, N0)) (rz_A N0)) (As.map (rz_v ad)).toArray s 0 0 (rz_A N0), 0, 0, maxL) cc maxL Ts y.cls rm :=
    ⟨⟨hx, hbb, hml, hown, fun w h => hts w (List.mem_cons_of_mem _ h)⟩, hK, hN, Nat.zero_le _, Nat.zero_le _, rfl, rfl, hNw⟩
  have key := hb (fun b => rz_W sh cl ((l, D, ad, cA, N0), p, e, rm, s, m, (As.map (rz_v ad)).toArray, below, meth, c, MQ below (va_Qv (fun (u : rz_M) => P none u) (rz_B sh cl (l, D, ad, cA, N0)) (rz_A N0)) (As.map (rz_v ad)).toArray s 0 0 (rz_A N0), 0, 0, maxL) (bp b)) P
    (fun b ls st μ h => hs _ rfl G b P _ (fun pc ls μ hd hp => ?_) (fun _ _ _ _ z => z) ls st μ h) As μ hC
  · rw [lg_entry_eq]
    rw [h0] at key
    exact key _ s.heap [] (rz_entry hAs) hP hD va_S.rf
  · intro la H locs hl hP hD hS
    exact W.vret hx hbb hr (fun t ht hW => ⟨⟨μ, rfl, hp, by rw [ht]; exact hP, va_K.moved hW.alike hK, hD⟩, hS.F ht⟩) hS.2.2 hd
