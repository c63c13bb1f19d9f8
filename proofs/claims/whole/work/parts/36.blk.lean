/-! a BLOCK: class and reference answer the same -/
theorem zA_lo : ∀ q ∈ zA, q.1 ≠ 0 ∧ q.1 ≠ 1 ∧ q.1 ≠ 5 ∧ q.1 ≠ 15 ∧ q.1 ≠ 17 ∧ 19 < q.2 := by decide
theorem add_ok {a b : rz_M} {x : Int32} (h : WI zV a b) (hJ : JC a) : WI zV (f_Co_add x a) (g_Co x b) := by
  have hR := h.2.2
  have e1 : a 15 1 = b 19 31 := vV hR (by decide)
  obtain ⟨⟨m, hm, e⟩, -⟩ := hJ
  unfold f_Co_add g_Co
  rw [← e1]
  by_cases h40 : m = 40
  · have c1 : (40 : Int32) ≤ a 15 1 := by rw [e, h40]; decide
    have c2 : ¬ ¬ a 15 1 = 40 := fun q => q (by rw [e, h40]; rfl)
    rw [if_pos c1, if_neg c2]
    exact ⟨IPa_up (k := 15) (by decide) h.1, h.2.1, RL_up okV hR (by decide) rfl⟩
  · have c1 : ¬ (40 : Int32) ≤ a 15 1 := by rw [e]; exact nI_ge (b := 40) (by omega) (by omega)
    have c2 : ¬ a 15 1 = 40 := by
      rw [e]; intro q
      have := (nI_eq (b := 40) (by omega) (by omega)).mp q
      omega
    rw [if_neg c1, if_pos c2]
    refine ⟨IPa_up (k := 16) (by decide) (IPa_up (k := 15) (by decide) h.1), h.2.1, ?_⟩
    rw [rz_up_comm (k := 28) (k2 := 19) (Or.inl (by decide))]
    exact RL_ua okV (RL_up okV hR (by decide) rfl) (by decide) rfl rfl
theorem adds_ok : ∀ (d i : Nat) (a b : rz_M), WI zV a b → JC a → OCT (a 2) → WI zV (f_adds d i a) (g_adds d i b)
  | 0, i, a, b, h, _, _ => h
  | d + 1, i, a, b, h, hJ, hO => by
    have e2 : a 2 = b 27 := h.2.2.2 (2, 27) (by decide)
    unfold f_adds g_adds
    rw [← e2]
    exact adds_ok d (i + 1) _ _ (add_ok h hJ) (JC_add hJ (hO _)) (by rw [f_Co_add_ne (by decide) (by decide)]; exact hO)
theorem bit_in {o : Int32} (h : o = 0 ∨ o = 1) : o ^^^ 1 = 1 - o ∧ (o ^^^ 1 = 0 ∨ o ^^^ 1 = 1) := bit_out h
/-- the INF has come to the COMMAND -/
theorem cm0_ok {a b : rz_M} (h : ON a b) {l : Nat} (hl : a 2 2 = nI l) (hl32 : l ≤ 32) : ON (f_tI0 a) (g_cm0 l b) ∧ f_tI0 a 17 1 = 0 ∧ f_tI0 a 17 2 = 0 := by
  obtain ⟨h0, hW, hD, hB, hRp⟩ := h
  have hR := hW.2.2
  have e6 : a 1 6 = b 19 22 := vV hR (by decide)
  obtain ⟨o1, o2⟩ := bit_in hB.1
  have hs : WI zV (rz_up (rz_up (rz_up a 1 6 (a 1 6 ^^^ 1)) 17 1 0) 17 2 0) (rz_up (rz_up (rz_up b 19 22 (1 - b 19 22)) 19 32 0) 19 33 0) := by
    refine ⟨IPa_up (k := 17) (by decide) (IPa_up (k := 17) (by decide) (IPa_up (k := 1) (by decide) hW.1)), hW.2.1, ?_⟩
    exact RL_up okV (RL_up okV (RL_up okV hR (by decide) (by rw [o1, e6])) (by decide) rfl) (by decide) rfl
  have hJs : JC (rz_up (rz_up (rz_up a 1 6 (a 1 6 ^^^ 1)) 17 1 0) 17 2 0) := hB.2.2.2.2.1
  have hA := adds_ok l 0 _ _ hs hJs hB.2.2.2.2.2.1
  have ef : f_tI0 a = f_adds l 0 (rz_up (rz_up (rz_up a 1 6 (a 1 6 ^^^ 1)) 17 1 0) 17 2 0) := by unfold f_tI0; rw [nc hl (by omega)]
  have n : ∀ k, k ≠ 15 → k ≠ 16 → f_tI0 a k = rz_up (rz_up (rz_up a 1 6 (a 1 6 ^^^ 1)) 17 1 0) 17 2 0 k := by
    intro k h15 h16
    rw [ef, f_adds_ne _ _ _ h15 h16]
  have n17 : f_tI0 a 17 1 = 0 ∧ f_tI0 a 17 2 = 0 := by
    rw [n 17 (by decide) (by decide)]
    exact ⟨rfl, rfl⟩
  refine ⟨⟨?_, ?_, ?_, ?_, ?_⟩, n17.1, n17.2⟩
  · rw [n 0 (by decide) (by decide)]; exact h0
  · rw [ef]; exact hA
  · refine DC_eq (a := a) ?_ ?_ ?_ hD
    · rw [n 7 (by decide) (by decide)]; rfl
    · rw [n 5 (by decide) (by decide)]; rfl
    · rw [n 5 (by decide) (by decide)]; rfl
  · unfold IB ISz IAn
    rw [n 1 (by decide) (by decide), n 2 (by decide) (by decide), n17.1, n17.2]
    refine ⟨o2, hB.2.1, hB.2.2.1, ⟨0, 0, rfl, rfl, by omega, by omega⟩, ?_, hB.2.2.2.2.2.1, hB.2.2.2.2.2.2⟩
    rw [ef]; exact JC_adds _ _ _ hJs hB.2.2.2.2.2.1
  · unfold REP
    rw [n 1 (by decide) (by decide), n 4 (by decide) (by decide)]
    have b35 : g_cm0 l b 19 35 = b 19 35 := by unfold g_cm0; rw [g_adds_19 _ _ _ (by decide) (by decide)]; rfl
    have b36 : g_cm0 l b 19 36 = b 19 36 := by unfold g_cm0; rw [g_adds_19 _ _ _ (by decide) (by decide)]; rfl
    have b31 : g_cm0 l b 31 = b 31 := by unfold g_cm0; rw [g_adds_ne _ _ _ (by decide) (by decide)]; rfl
    rw [b35, b36, b31]
    exact hRp
/-- the reference's needs, before a COMMAND is done -/
theorem IX_of {a b : rz_M} (h : ON a b) (h17 : a 17 1 = 0) : IX b := by
  obtain ⟨h0, hW, hD, hB, hRp⟩ := h
  have hR := hW.2.2
  obtain ⟨c, hc, hc8, ⟨d, hd, ed⟩, hcur⟩ := hD
  obtain ⟨c', ⟨hc', c1', c8'⟩, hz, -, -, -, ⟨p0, hpa⟩⟩ := hW.1
  have e76 : a 7 6 = b 19 6 := vV hR (by decide)
  have e54 : a 5 4 = b 19 20 := vV hR (by decide)
  have e55 : a 5 5 = b 19 21 := vV hR (by decide)
  have e171 : a 17 1 = b 19 32 := vV hR (by decide)
  have e151 : a 15 1 = b 19 31 := vV hR (by decide)
  have e9 : a 9 = b 21 := hR.2 (9, 21) (by decide)
  have e10 : a 10 = b 22 := hR.2 (10, 22) (by decide)
  have e16 : a 16 = b 28 := hR.2 (16, 28) (by decide)
  obtain ⟨⟨l, hl, el⟩, ho⟩ := hB.2.2.2.2.1
  refine ⟨⟨c', e76 ▸ hc', c1', c8'⟩, ⟨d, e54 ▸ ed, by omega⟩, ?_, ?_, ?_, e171 ▸ h17, e16 ▸ ho, ⟨l, hl, e151 ▸ el⟩⟩
  · intro i hi
    rw [← e9]
    rcases Nat.eq_zero_or_pos i with q | q
    · rw [q]; exact Or.inl p0
    · obtain ⟨m, hm, em⟩ := hpa i hi q
      exact Or.inr ⟨m, by omega, em⟩
  · rw [← e55]
    intro q
    rcases hcur with r | ⟨f, hf, ef⟩
    · rw [r] at q; exact absurd q (by decide)
    · rw [ef]; exact nI_lt (b := 8) (by omega) (by omega)
  · rw [← e10]; exact hz
theorem IW_of {a b : rz_M} (h : ON a b) (h17 : a 17 1 = 0) : IW a := by
  obtain ⟨h0, hW, hD, hB, hRp⟩ := h
  obtain ⟨c', ⟨hc', c1', c8'⟩, hz, -⟩ := hW.1
  obtain ⟨⟨l, hl, el⟩, ho⟩ := hB.2.2.2.2.1
  exact ⟨⟨c', hc', c1', c8'⟩, hz, by rw [el]; exact nI_le (b := 40) hl (by omega), h17, ho⟩
def ONF (a b : rz_M) : Prop := ON a b ∨ OFF a b
/-- a COMMAND is done, and answered -/
theorem done_ok {a b : rz_M} (h : ON a b) (h171 : a 17 1 = 0) (h172 : a 17 2 = 0) : (¬ (g_exe b).2 19 17 = 0 → IXa (g_exe b).2) ∧ ONF (f_tI1 0 a) (g_cm1 0 b) := by
  have hIW := IW_of h h171
  obtain ⟨h0, hW, hD, hB, hRp⟩ := id h
  have hr := perf_ok hW hD hB.2.2.2.2.1
  obtain ⟨⟨aa, ha24, haa⟩, h2⟩ := f_perf_17 hIW
  have hK := KE_exe (b := b)
  unfold f_tI1 g_cm1
  rw [if_pos rfl, if_pos rfl]
  rcases hr with ⟨r1, r2, r3, r4⟩ | ⟨r1, r2⟩
  · have hR := r3.2.2
    have k1 : (f_perf a).2 1 = a 1 := f_perf_ne (by decide) (by decide) (by decide) (by decide) (by decide) (by decide) (by decide)
    have k0 : (f_perf a).2 0 = a 0 := f_perf_ne (by decide) (by decide) (by decide) (by decide) (by decide) (by decide) (by decide)
    have k2 : (f_perf a).2 2 = a 2 := f_perf_ne (by decide) (by decide) (by decide) (by decide) (by decide) (by decide) (by decide)
    have k4 : (f_perf a).2 4 = a 4 := f_perf_ne (by decide) (by decide) (by decide) (by decide) (by decide) (by decide) (by decide)
    have k16 : (f_perf a).2 16 = a 16 := f_perf_ne (by decide) (by decide) (by decide) (by decide) (by decide) (by decide) (by decide)
    have e03 : (f_perf a).2 0 3 = (g_exe b).2 19 17 := vV hR (by decide)
    have e171 : (f_perf a).2 17 1 = (g_exe b).2 19 32 := vV hR (by decide)
    have e172 : (f_perf a).2 17 2 = (g_exe b).2 19 33 := vV hR (by decide)
    have e18 : (f_perf a).2 1 8 = (g_exe b).2 19 24 := vV hR (by decide)
    have e04 : (f_perf a).2 0 4 = (g_exe b).2 19 11 := vV hR (by decide)
    have hon : ¬ (g_exe b).2 19 17 = 0 := by
      rw [← e03, k0, h0]; decide
    obtain ⟨z, z1, z32, hz⟩ := hB.2.2.1
    refine ⟨fun _ => ⟨⟨aa, ha24, e171 ▸ haa⟩, by rw [← e172, h2, h172], ⟨z, z32, by rw [← e18, k1]; exact hz⟩⟩, ?_⟩
    rw [if_pos r1, if_pos hon]
    left
    unfold g_fin
    dsimp only
    rw [← e171, nc haa (by omega)]
    refine piece_ok ?_
    -- both, piece by piece
    have c1 : f_conc (f_perf a).1 (f_perf a).2 = rz_up (rz_up (rz_up (rz_up (rz_up (rz_up (f_perf a).2 15 1 0) 15 2 0) 17 1 (nI (aa + 1))) 18 aa ((f_perf a).1 >>> ((8 : Int32) &&& 31))) 17 1 (nI (aa + 1 + 1))) 18 (aa + 1) ((f_perf a).1 &&& 255) := by
      unfold f_conc
      rw [f_An_nI (a := aa) (μ := rz_up (rz_up (f_perf a).2 15 1 0) 15 2 0) haa (by omega), f_An_nI (a := aa + 1) rfl (by omega)]
    have hRL : RL zV (f_cc (f_conc (f_perf a).1 (f_perf a).2)) (rz_up (rz_up (rz_up (g_put ((g_exe b).1 &&& 255) (aa + 1) (g_put ((g_exe b).1 >>> ((8 : Int32) &&& 31)) aa (g_exe b).2)) 19 11 (g_put ((g_exe b).1 &&& 255) (aa + 1) (g_put ((g_exe b).1 >>> ((8 : Int32) &&& 31)) aa (g_exe b).2) 19 11 + 1)) 19 31 0) 19 19 0) := by
      unfold f_cc
      rw [c1, ← r2]
      unfold g_put
      refine ⟨fun p hp => ?_, fun q hq => ?_⟩
      · have e := hR.1 p hp
        simp only [zV, zP, List.cons_append, List.nil_append, List.mem_cons, List.not_mem_nil, or_false] at hp
        rcases hp with rfl | rfl | rfl | rfl | rfl | rfl | rfl | rfl | rfl | rfl | rfl | rfl | rfl | rfl | rfl | rfl | rfl | rfl | rfl | rfl | rfl
        all_goals first
          | exact e
          | rfl
          | exact congrArg (· + 1) e
      · have e := hR.2 q hq
        have e29 : (f_perf a).2 18 = (g_exe b).2 29 := hR.2 (18, 29) (by decide)
        by_cases hq18 : q.1 = 18
        · have hq29 : q.2 = 29 := (zA_inj q hq (18, 29) (by decide)).mp hq18
          rw [hq18, hq29]
          show upd (upd ((f_perf a).2 18) aa _) (aa + 1) _ = upd (upd ((g_exe b).2 29) aa _) (aa + 1) _
          rw [e29]
        · have hq29 : ¬ q.2 = 29 := fun w => hq18 ((zA_inj q hq (18, 29) (by decide)).mpr w)
          have h1 := zA_lo q hq
          rw [rz_up_k (by omega), rz_up_k (by omega), rz_up_k (by omega), rz_up_k (by omega), rz_up_k (by omega), rz_up_k (by omega), rz_up_k (by omega), rz_up_k (by omega), rz_up_k (by omega), rz_up_k (by omega), rz_up_k (by omega), rz_up_k (by omega), rz_up_k (by omega), rz_up_k (by omega)]
          exact e
    have kc : ∀ k, k ≠ 0 → k ≠ 15 → k ≠ 17 → k ≠ 18 → f_cc (f_conc (f_perf a).1 (f_perf a).2) k = (f_perf a).2 k := by
      intro k h0 h15 h17 h18
      unfold f_cc
      rw [rz_up_k h0, f_conc_ne h15 h17 h18]
    obtain ⟨d1, d2⟩ := f_conc_17 (s := (f_perf a).1) haa ha24
    refine ⟨?_, ⟨?_, ?_, hRL⟩, ?_, ?_, ?_⟩
    · show f_conc (f_perf a).1 (f_perf a).2 0 3 = 1
      rw [f_conc_ne (by decide) (by decide) (by decide), k0]; exact h0
    · exact IPa_eq (kc 7 (by decide) (by decide) (by decide) (by decide)) (kc 8 (by decide) (by decide) (by decide) (by decide)) (kc 9 (by decide) (by decide) (by decide) (by decide)) (kc 10 (by decide) (by decide) (by decide) (by decide)) (kc 11 (by decide) (by decide) (by decide) (by decide)) (kc 12 (by decide) (by decide) (by decide) (by decide)) r3.1
    · have := r3.2.1
      unfold NOTE NT at this ⊢
      rw [kc 6 (by decide) (by decide) (by decide) (by decide)]
      exact this
    · refine DC_eq (a := (f_perf a).2) ?_ ?_ ?_ r4
      · rw [kc 7 (by decide) (by decide) (by decide) (by decide)]
      · rw [kc 5 (by decide) (by decide) (by decide) (by decide)]
      · rw [kc 5 (by decide) (by decide) (by decide) (by decide)]
    · unfold IB ISz IAn JC
      rw [kc 1 (by decide) (by decide) (by decide) (by decide), kc 2 (by decide) (by decide) (by decide) (by decide), kc 16 (by decide) (by decide) (by decide) (by decide), k1, k2, k16]
      refine ⟨hB.1, hB.2.1, ⟨z, z1, z32, hz⟩, ⟨aa + 2, 0, d1, ?_, by omega, by omega⟩, ⟨⟨0, by omega, ?_⟩, hB.2.2.2.2.1.2⟩, hB.2.2.2.2.2.1, hB.2.2.2.2.2.2⟩
      · show f_conc (f_perf a).1 (f_perf a).2 17 2 = nI 0
        rw [d2, h2, h172]; rfl
      · show f_conc (f_perf a).1 (f_perf a).2 15 1 = nI 0
        rw [c1]; rfl
    · unfold REP
      rw [kc 1 (by decide) (by decide) (by decide) (by decide), kc 4 (by decide) (by decide) (by decide) (by decide), k1, k4]
      have b31 : (g_exe b).2 31 = b 31 := hK.1 31 (Or.inr rfl)
      show (a 1 5 = 0 ∧ ((g_exe b).2 19 35 = 0 ∨ (g_exe b).2 19 36 = 0) ∧ ∃ r : Nat, r ≤ 36 ∧ (g_exe b).2 19 35 = nI r) ∨ (∃ r : Nat, 4 ≤ r ∧ r ≤ 36 ∧ a 1 5 = nI r ∧ (g_exe b).2 19 35 = nI r ∧ (g_exe b).2 19 36 = 1 ∧ ∀ j, j < r → a 4 j = (g_exe b).2 31 j)
      rw [hK.2.2.1, hK.2.2.2, b31]
      exact hRp
  · have hoff := r2.2.1
    refine ⟨fun q => absurd hoff q, ?_⟩
    rw [if_neg (fun q => q r1), if_neg (fun q => q hoff)]
    right
    have k2 : (f_perf a).2 2 = a 2 := f_perf_ne (by decide) (by decide) (by decide) (by decide) (by decide) (by decide) (by decide)
    have k16 : (f_perf a).2 16 = a 16 := f_perf_ne (by decide) (by decide) (by decide) (by decide) (by decide) (by decide) (by decide)
    refine ⟨rfl, hoff, rfl, r2.2.2, ?_, ?_, ?_⟩
    rotate_left
    · show OCT ((f_perf a).2 2)
      rw [k2]; exact hB.2.2.2.2.2.1
    · show OCT ((f_perf a).2 16)
      rw [k16]; exact hB.2.2.2.2.1.2
    refine ⟨IPa_eq rfl rfl rfl rfl rfl rfl r2.1.1, r2.1.2.1, ?_⟩
    have hR := r2.1.2.2
    refine ⟨fun p hp => ?_, fun q hq => ?_⟩
    · have e := hR.1 p hp
      simp only [zP, List.mem_cons, List.not_mem_nil, or_false] at hp
      rcases hp with rfl | rfl | rfl | rfl | rfl | rfl | rfl | rfl | rfl
      all_goals exact e
    · have e := hR.2 q hq
      have h1 := zA_lo q hq
      unfold f_pd f_wreset f_lreset f_resync f_forget
      rw [rz_up_k (by omega), rz_up_k (by omega), rz_up_k (by omega), rz_up_k (by omega), rz_up_k (by omega), rz_up_k (by omega), rz_up_k (by omega), rz_up_k (by omega), rz_up_k (by omega), rz_up_k (by omega), rz_up_k (by omega), rz_up_k (by omega), rz_up_k (by omega), rz_up_k (by omega)]
      exact e
