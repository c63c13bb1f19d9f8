theorem read_ok {a b : rz_M} {d x : Int32} (h : WI zV a b) (hD : DC a) (ho : OCT (a 16)) (hd : a 15 3 = d) (hx : EX a x) : RES (f_read a) (g_reads (v_pl b) d x b) := by
  have hR := h.2.2
  obtain ⟨epl, p, hp, ep⟩ := plc_eq hR ho
  have e21 : a 5 5 = b 19 21 := vV hR (by decide)
  have e18 : a 5 3 = b 19 18 := vV hR (by decide)
  have e22 : a 10 = b 22 := hR.2 (10, 22) (by decide)
  have e23 : a 11 = b 23 := hR.2 (11, 23) (by decide)
  have e13 : a 13 = b 25 := hR.2 (13, 25) (by decide)
  have e29 : a 18 = b 29 := hR.2 (18, 29) (by decide)
  have hxi := EX_iff hx
  have S : ∀ {s : Int32}, ¬ s = -1 → RES (s, a) (s, b) := fun hs => RES_same h hD hs
  subst hd
  unfold f_read g_reads
  rw [← epl]
  refine R2 RES Iff.rfl (fun _ => S (by decide)) (fun _ => R2 RES ?_ (fun hx1 => ?_) (fun _ => S (by decide)))
  · rw [← Int32.not_lt]
    exact ⟨fun q w => q (hxi.mpr w), fun q w => q (hxi.mp w)⟩
  · obtain ⟨e, he255, hxe, hex⟩ : ∃ e : Nat, e ≤ 255 ∧ x = nI e ∧ a 15 4 = g_exn x := by
      rcases hx with q | q
      · exact absurd q.1 hx1
      · exact q
    obtain ⟨c', -, -, hrr, -⟩ := h.1
    have T := test_ok h hD hp (r := 0) (q := p_mr a (a 5 5) (a 5 3)) (fun f hf8 hfe => by
      obtain ⟨c, hc, hc8, -, hcur⟩ := hD
      have cf : (a 5 5).toNatClampNeg = f := nc hfe (by omega)
      have hfc : f < c := by
        rcases hcur with q | ⟨f', hf', q⟩
        · rw [hfe] at q
          have : (nI f).toInt = (-1 : Int32).toInt := by rw [q]
          rw [nI_toInt (by omega)] at this
          have e1 : (-1 : Int32).toInt = -1 := rfl
          omega
        · rw [hfe] at q
          have := (nI_eq (by omega) (by omega)).mp q
          omega
      obtain ⟨r, hr2, er⟩ := hrr f hf8
      have eg : g_nd 0 b = nI r := by
        unfold g_nd
        rw [if_neg (fun q => q rfl), ← e21, ← e23, cf, er]
      rw [eg, ← e18]
      constructor
      · intro q
        have := q.2
        rw [cf, er] at this
        exact (rt_iff hr2 _).mp this
      · intro q
        refine ⟨⟨by rw [hfe]; exact nI_pos (by omega), by rw [hfe, hc]; exact nI_ge hfc (by omega)⟩, ?_⟩
        rw [cf, er]
        exact (rt_iff hr2 _).mpr q)
    rw [ep]
    rcases T with ⟨t1, t2, f, z, hf8, hfe, hz24, ez, hpz⟩ | ⟨t1, t2, t3, t4⟩
    · refine R2 RES ⟨fun _ => t2, fun _ => t1⟩ (fun _ => ?_) (fun q => absurd t1 q)
      have cf : (a 5 5).toNatClampNeg = f := nc hfe (by omega)
      have eth : v_th a = g_th (nI p) b := by
        unfold v_th g_th
        rw [ep, ← e21, ← e22]
      have en : v_n a = g_m (nI p) x b := by
        unfold v_n g_m
        rw [hex, eth, Nat.min_comm]
      have eb : (a 5 5 * 24 + nI p).toNatClampNeg = (24 * b 19 21 + nI p).toNatClampNeg := by
        rw [e21, Int32.mul_comm]
      have hWI : WI zV (f_rd (v_n a) (a 5 5 * 24 + nI p).toNatClampNeg a) (g_rdm (g_m (nI p) x b) (24 * b 19 21 + nI p).toNatClampNeg b) := by
        refine ⟨?_, ?_, ?_⟩
        · unfold f_rd
          exact IPa_up (k := 17) (by decide) (IPa_uf (k := 18) (by decide) h.1)
        · exact h.2.1
        · unfold f_rd g_rdm
          rw [en, eb]
          exact RL_up okV (RL_uf okV hR (by decide) (by rw [e13, e29])) (by decide) rfl
      have hDC : DC (f_rd (v_n a) (a 5 5 * 24 + nI p).toNatClampNeg a) := DC_eq (a := a) rfl rfl rfl hD
      refine R2 RES ?_ (fun _ => Or.inl ⟨(by decide : ¬ (36864 : Int32) = -1), rfl, hWI, hDC⟩) (fun _ => Or.inl ⟨(by decide : ¬ (25218 : Int32) = -1), rfl, hWI, hDC⟩)
      rw [hex, eth]
    · refine R2 RES ⟨fun q => absurd q t2, fun q => absurd q t3⟩ (fun q => absurd q t2) (fun _ => ?_)
      rw [← t1]
      exact S t4
theorem chg_ok {a b : rz_M} {x : Int32} {n : Nat} (h : WI zV a b) (hD : DC a) (ho : OCT (a 16)) (hn : a 15 3 = nI n) (hn32 : n ≤ 32) (hx : EX a x) : RES (f_chg n a) (g_chg (v_pl b) (nI n) x n b) := by
  have hR := h.2.2
  obtain ⟨epl, p, hp, ep⟩ := plc_eq hR ho
  have e21 : a 5 5 = b 19 21 := vV hR (by decide)
  have e18 : a 5 3 = b 19 18 := vV hR (by decide)
  have e22 : a 10 = b 22 := hR.2 (10, 22) (by decide)
  have e24 : a 12 = b 24 := hR.2 (12, 24) (by decide)
  have hxi := EX_iff hx
  have S : ∀ {s : Int32}, ¬ s = -1 → RES (s, a) (s, b) := fun hs => RES_same h hD hs
  unfold f_chg g_chg
  rw [← epl, hn]
  refine R2 RES Iff.rfl (fun _ => S (by decide)) (fun hn0 => R2 RES hxi (fun _ => ?_) (fun _ => S (by decide)))
  obtain ⟨c', -, -, -, hrr, -⟩ := h.1
  have T := test_ok h hD hp (r := 1) (q := p_mc a (a 5 5) (a 5 3)) (fun f hf8 hfe => by
    obtain ⟨c, hc, hc8, -, hcur⟩ := hD
    have cf : (a 5 5).toNatClampNeg = f := nc hfe (by omega)
    have hfc : f < c := by
      rcases hcur with q | ⟨f', hf', q⟩
      · rw [hfe] at q
        have : (nI f).toInt = (-1 : Int32).toInt := by rw [q]
        rw [nI_toInt (by omega)] at this
        have e1 : (-1 : Int32).toInt = -1 := rfl
        omega
      · rw [hfe] at q
        have := (nI_eq (by omega) (by omega)).mp q
        omega
    obtain ⟨r, hr2, er⟩ := hrr f hf8
    have eg : g_nd 1 b = nI r := by
      unfold g_nd
      rw [if_pos (by decide), ← e21, ← e24, cf, er]
    rw [eg, ← e18]
    constructor
    · intro q
      have := q.2
      rw [cf, er] at this
      exact (rt_iff hr2 _).mp this
    · intro q
      refine ⟨⟨by rw [hfe]; exact nI_pos (by omega), by rw [hfe, hc]; exact nI_ge hfc (by omega)⟩, ?_⟩
      rw [cf, er]
      exact (rt_iff hr2 _).mpr q)
  rw [ep]
  rcases T with ⟨t1, t2, f, z, hf8, hfe, hz24, ez, hpz⟩ | ⟨t1, t2, t3, t4⟩
  · refine R2 RES ⟨fun _ => t2, fun _ => t1⟩ (fun _ => ?_) (fun q => absurd t1 q)
    have cf : (a 5 5).toNatClampNeg = f := nc hfe (by omega)
    have n1 : 1 ≤ n := by
      rcases Nat.eq_zero_or_pos n with q | q
      · rw [q] at hn0; exact absurd rfl hn0
      · exact q
    have hpn : nI p + nI n - 1 = nI (p + n - 1) := by
      rw [nI_add, show p + n = (p + n - 1) + 1 by omega, nI_pred]; congr 1
    obtain ⟨k0, k1, -, -⟩ := v_test_ok t1
    have hiff : p_ho a (a 5 5) (nI p + nI n - 1) ↔ nI p + nI n ≤ b 22 (b 19 21).toNatClampNeg := by
      rw [← e21, ← e22, cf, ez, hpn, nI_add]
      constructor
      · intro q
        have := q.2.2.2
        rw [cf, ez] at this
        rcases Nat.lt_or_ge (p + n - 1) z with r | r
        · exact nI_le (by omega) (by omega)
        · exact absurd (nI_le r (by omega)) this
      · intro q
        have := (nI_leI (by omega) (by omega)).mp q
        refine ⟨k0, k1, nI_pos (by omega), ?_⟩
        rw [cf, ez]
        exact nI_ge (by omega) (by omega)
    refine R2 RES hiff (fun hq => ?_) (fun _ => S (by decide))
    have hpz2 : p + n ≤ z := by
      have := hiff.mp hq
      rw [← e21, ← e22, cf, ez, nI_add] at this
      exact (nI_leI (by omega) (by omega)).mp this
    unfold f_chg2 g_chg2 f_wN
    rw [ep]
    rcases wn_ok okV (n + 2) a b h with ⟨w1, w2, w3⟩ | ⟨w1, w2, w3⟩
    · rw [if_pos w1, if_pos w2, if_pos rfl]
      exact Or.inr ⟨rfl, w3⟩
    · have w1' : ¬ (f_wn (n + 2) a).1 = 0 := by rw [w1]; decide
      have w2' : ¬ (g_wn (n + 2) b).1 = 0 := by rw [w2]; decide
      rw [if_neg w1', if_neg w2', if_neg (show ¬ (1 : Int32) = 0 by decide)]
      have hR2 := w3.2.2
      have e16 : (f_wn (n + 2) a).2 16 = (g_wn (n + 2) b).2 28 := hR2.2 (16, 28) (by decide)
      have e14 : (f_wn (n + 2) a).2 14 = (g_wn (n + 2) b).2 26 := hR2.2 (14, 26) (by decide)
      have hWI : WI zV (f_nt (a 5 5) (nI p) n (f_wn (n + 2) a).2) (g_nt (nI p) n (g_wn (n + 2) b).2) := by
        refine ⟨?_, ⟨Or.inr ⟨rfl, n, f, p, rfl, rfl, n1, hfe, hf8, rfl, by omega⟩, w3.2.1.2⟩, ?_⟩
        · unfold f_nt
          exact IPa_up (k := 6) (by decide) (IPa_uf (k := 14) (by decide) (IPa_up (k := 6) (by decide) (IPa_up (k := 6) (by decide) (IPa_up (k := 6) (by decide) w3.1))))
        · unfold f_nt g_nt
          refine RL_l okV (RL_uf okV (RL_l okV (RL_r okV (RL_up okV (RL_up okV hR2 (by decide) ?_) (by decide) rfl) (by decide) (by decide)) (by decide) (by decide)) (by decide) ?_) (by decide) (by decide)
          · rw [g_wn_21, e21]
          · rw [e16, e14]
      have hco := co_ok okV (n := n) (f := f) (p := p) (by omega) hf8 n 0 _ _ (by omega) hWI rfl rfl hfe rfl
      rcases hco with ⟨c1, c2, c3⟩ | ⟨c1, c2, c3, c4⟩
      · rw [if_pos c1]
        exact Or.inr ⟨rfl, c3⟩
      · rw [if_neg (show ¬ (f_coL n 0 (f_nt (a 5 5) (nI p) n (f_wn (n + 2) a).2)).1 = 0 by rw [c1]; decide)]
        refine Or.inl ⟨(by decide : ¬ (36864 : Int32) = -1), rfl, c3, ?_⟩
        have k5 : (f_coL n 0 (f_nt (a 5 5) (nI p) n (f_wn (n + 2) a).2)).2 5 = a 5 := by
          rw [f_coL_ne _ _ _ (by decide) (by decide), f_nt_ne (by decide) (by decide), f_wn_ne _ _ (by decide)]
        have k7 : (f_coL n 0 (f_nt (a 5 5) (nI p) n (f_wn (n + 2) a).2)).2 7 = a 7 := by
          rw [f_coL_ne _ _ _ (by decide) (by decide), f_nt_ne (by decide) (by decide), f_wn_ne _ _ (by decide)]
        exact DC_eq (a := a) (congrFun k7 6) (congrFun k5 4) (congrFun k5 5) hD
  · refine R2 RES ⟨fun q => absurd q t2, fun q => absurd q t3⟩ (fun q => absurd q t2) (fun _ => ?_)
    rw [← t1]
    exact S t4
/-- the two searches find the same -/
theorem lp_find {a b : rz_M} {w : Int32} (h8 : a 8 = b 20) (h9 : a 9 = b 21) (hf : a 5 4 = b 19 20) : ∀ (k : Nat) (x : Int32), k < 2147483648 → g_lp b w k x = (if a 8 0 = w ∧ 1 ≤ k then 0 else if f_find a (a 5 4) w (k - 1) 1 = -1 then x else f_find a (a 5 4) w (k - 1) 1) := by
  -- f_find from i on over d places, extended at its end
  have ext : ∀ (d i : Nat), i + d < 2147483648 → f_find a (a 5 4) w (d + 1) i = (if f_find a (a 5 4) w d i = -1 then (if a 9 (i + d) = a 5 4 ∧ a 8 (i + d) = w then nI (i + d) else -1) else f_find a (a 5 4) w d i) := by
    intro d
    induction d with
    | zero =>
      intro i hi
      show (if a 9 i = a 5 4 ∧ a 8 i = w then nI i else -1) = (if (-1 : Int32) = -1 then (if a 9 (i + 0) = a 5 4 ∧ a 8 (i + 0) = w then nI (i + 0) else -1) else -1)
      rw [if_pos rfl]
      rfl
    | succ d ih =>
      intro i hi
      rw [f_find]
      by_cases hq : a 9 i = a 5 4 ∧ a 8 i = w
      · rw [if_pos hq]
        have : f_find a (a 5 4) w (d + 1) i = nI i := by rw [f_find, if_pos hq]
        rw [this, if_neg]
        intro q
        have : (nI i).toInt = (-1 : Int32).toInt := by rw [q]
        rw [nI_toInt (by omega)] at this
        have e1 : (-1 : Int32).toInt = -1 := rfl
        omega
      · rw [if_neg hq, ih (i + 1) (by omega)]
        have : f_find a (a 5 4) w (d + 1) i = f_find a (a 5 4) w d (i + 1) := by rw [f_find, if_neg hq]
        rw [this, show i + 1 + d = i + (d + 1) by omega]
  intro k
  induction k with
  | zero =>
    intro x _
    rw [g_lp, if_neg (fun q => absurd q.2 (by decide))]
    rfl
  | succ k ih =>
    intro x hk
    rw [g_lp, ih _ (by omega), ← h8, ← h9, ← hf]
    rcases Nat.eq_zero_or_pos k with q | q
    · subst q
      rw [if_neg (fun q => absurd q.2 (by decide))]
      have e1 : f_find a (a 5 4) w (0 - 1) 1 = -1 := rfl
      have e2 : f_find a (a 5 4) w (0 + 1 - 1) 1 = -1 := rfl
      rw [if_pos e1, if_pos e2]
      by_cases hw : a 8 0 = w
      · rw [if_pos ⟨hw, Or.inl rfl⟩, if_pos ⟨hw, by omega⟩]; rfl
      · rw [if_neg (fun q => hw q.1), if_neg (fun q => hw q.1)]
    · by_cases hw : a 8 0 = w
      · rw [if_pos ⟨hw, q⟩, if_pos ⟨hw, by omega⟩]
      · rw [if_neg (show ¬ (a 8 0 = w ∧ 1 ≤ k) from fun z => hw z.1), if_neg (show ¬ (a 8 0 = w ∧ 1 ≤ k + 1) from fun z => hw z.1)]
        have hk0 : ¬ nI k = 0 := nI_ne0 q (by omega)
        have ex := ext (k - 1) 1 (by omega)
        rw [show k - 1 + 1 = k + 1 - 1 by omega, show 1 + (k - 1) = k by omega] at ex
        rw [ex]
        by_cases hf0 : f_find a (a 5 4) w (k - 1) 1 = -1
        · rw [if_pos hf0, if_pos hf0]
          by_cases hm : a 9 k = a 5 4 ∧ a 8 k = w
          · rw [if_pos ⟨hm.2, Or.inr hm.1⟩, if_pos hm, if_neg]
            intro q2
            have : (nI k).toInt = (-1 : Int32).toInt := by rw [q2]
            rw [nI_toInt (by omega)] at this
            have e1 : (-1 : Int32).toInt = -1 := rfl
            omega
          · rw [if_neg (fun z => hm ⟨z.2.resolve_left hk0, z.1⟩), if_neg hm, if_pos rfl]
        · rw [if_neg hf0, if_neg hf0, if_neg hf0]
