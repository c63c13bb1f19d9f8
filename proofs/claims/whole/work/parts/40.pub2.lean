/-! THE PUBLIC CALLS, second half -/
def f_tear (n : Int32) (μ : rz_M) : Int32 × rz_M := if n < -1 then (-1, μ) else if n ≤ 200 then (μ 6 10, rz_up μ 6 10 n) else (-1, μ)
def g_tear (n : Int32) (μ : rz_M) : Int32 × rz_M := if ¬ n < -1 ∧ ¬ 200 < n then (μ 19 12, rz_up μ 19 12 n) else (-1, μ)
theorem BR_tear {a b : rz_M} (h : BR a b) (n : Int32) : BR (rz_up a 6 10 n) (rz_up b 19 12 n) := by
  rcases h with ⟨⟨h0, hW, hD, hB, hRp⟩, h2, h3⟩ | ⟨⟨h0, h1, h2, h3, hW, hO⟩, h4⟩
  · exact Or.inl ⟨⟨h0, ⟨IPa_up (k := 6) (by decide) hW.1, hW.2.1, RL_up okV hW.2.2 (by decide) rfl⟩, DC_eq (a := a) rfl rfl rfl hD, hB, hRp⟩, h2, h3⟩
  · exact Or.inr ⟨⟨h0, h1, h2, h3, ⟨IPa_up (k := 6) (by decide) hW.1, hW.2.1, RL_up (Or.inl rfl) hW.2.2 (by decide) rfl⟩, hO⟩, h4⟩
theorem tear_ok {a b : rz_M} (h : BR a b) (n : Int32) : SAME (f_tear n a) (g_tear n b) := by
  unfold f_tear g_tear
  have e : a 6 10 = b 19 12 := BR_at h (by decide)
  by_cases h1 : n < -1
  · rw [if_pos h1, if_neg (fun q => q.1 h1)]; exact ⟨rfl, h⟩
  · rw [if_neg h1]
    by_cases h2 : n ≤ 200
    · rw [if_pos h2, if_pos ⟨h1, Int32.not_lt.mpr h2⟩]; exact ⟨e, BR_tear h n⟩
    · rw [if_neg h2, if_neg (fun q => q.2 (Int32.not_le.mp h2))]; exact ⟨rfl, h⟩
theorem BR_oct {a b : rz_M} (h : BR a b) : OCT (a 2) ∧ OCT (a 16) := by
  rcases h with h | h
  · exact ⟨h.1.2.2.2.1.2.2.2.2.2.1, h.1.2.2.2.1.2.2.2.2.1.2⟩
  · exact h.1.2.2.2.2.2
theorem pd_RL {a b : rz_M} (hR : RL zP a b) : RL zP (f_pd a) b := by
  refine ⟨fun p hp => ?_, fun q hq => ?_⟩
  · have e := hR.1 p hp
    simp only [zP, List.mem_cons, List.not_mem_nil, or_false] at hp
    rcases hp with rfl | rfl | rfl | rfl | rfl | rfl | rfl | rfl | rfl
    all_goals exact e
  · have e := hR.2 q hq
    have h1 := zA_lo q hq
    unfold f_pd f_wreset f_lreset f_resync f_forget
    rw [rz_up_k (by omega), rz_up_k (by omega), rz_up_k (by omega), rz_up_k (by omega), rz_up_k (by omega), rz_up_k (by omega), rz_up_k (by omega), rz_up_k (by omega), rz_up_k (by omega), rz_up_k (by omega), rz_up_k (by omega), rz_up_k (by omega), rz_up_k (by omega), rz_up_k (by omega)]
    exact e
theorem pd_WI {a b : rz_M} (h : WI zP a b) : WI zP (f_pd a) b := ⟨IPa_eq rfl rfl rfl rfl rfl rfl h.1, h.2.1, pd_RL h.2.2⟩
def f_off (μ : rz_M) : Int32 × rz_M := (if μ 0 3 = 0 then 0 else 1, f_pd μ)
theorem off_ok {a b : rz_M} (h : BR a b) : SAME (f_off a) (g_off b) := by
  unfold f_off g_off
  obtain ⟨o2, o16⟩ := BR_oct h
  have hW := BR_WI h
  obtain ⟨e17, -⟩ := BR_on h
  rw [← e17]
  by_cases h0 : a 0 3 = 0
  · rw [if_pos h0, if_neg (fun q => q h0)]
    refine ⟨rfl, Or.inr ⟨⟨rfl, e17.symm.trans h0, rfl, ?_, pd_WI hW, o2, o16⟩, rfl⟩⟩
    rcases h with h | h
    · exact absurd (h.1.1.symm.trans h0) (by decide)
    · exact h.1.2.2.2.1
  · rw [if_neg h0, if_pos h0]
    refine ⟨rfl, Or.inr ⟨⟨rfl, rfl, rfl, rfl, ?_, o2, o16⟩, rfl⟩⟩
    have := pd_WI hW
    exact ⟨this.1, this.2.1, RP_r (RP_r this.2.2 (by decide) (by decide)) (by decide) (by decide)⟩
/-- what powerDown leaves -/
def RST (a : rz_M) : Prop := a 1 5 = 0 ∧ a 1 6 = 0 ∧ a 1 7 = 0 ∧ a 1 8 = 32 ∧ a 1 1 = 0 ∧ a 5 3 = 0 ∧ a 5 4 = 0 ∧ a 5 5 = -1 ∧ a 15 1 = 0 ∧ a 15 2 = 0 ∧ a 17 1 = 0 ∧ a 17 2 = 0
theorem RST_eq {a a' : rz_M} (h1 : a' 1 = a 1) (h5 : a' 5 = a 5) (h15 : a' 15 = a 15) (h17 : a' 17 = a 17) (h : RST a) : RST a' := by
  unfold RST
  rw [h1, h5, h15, h17]
  exact h
theorem on1_ok {a b : rz_M} (hW : WI zP a b) (hr : RST a) (h17 : b 19 17 = 1) (o2 : OCT (a 2)) (o16 : OCT (a 16)) : BR (f_on1 a) (g_on1 b) := by
  obtain ⟨r5, r6, r7, r8, r1, w3, w4, w5, c1, c2, n1, n2⟩ := hr
  have hR := hW.2.2
  have e8 : a 6 7 = b 19 8 := RL_at (Or.inl rfl) hR (by decide)
  have hP : RL zP (f_on1 a) (g_on1 b) := by
    unfold f_on1 f_greet g_on1 g_begin g_forget
    refine RP_l (RP_r ?_ (by decide) (by decide)) (by decide) (by decide)
    refine RL_ua (Or.inl rfl) (RL_ua (Or.inl rfl) (RL_ua (Or.inl rfl) (RL_ua (Or.inl rfl) ?_ (by decide) rfl rfl) (by decide) rfl rfl) (by decide) rfl e8) (by decide) rfl rfl
    refine RP_l ?_ (by decide) (by decide)
    repeat' (first | exact hR | refine RP_r ?_ (by decide) (by decide))
  have hV : RL zV (f_on1 a) (g_on1 b) := by
    refine ⟨fun p hp => ?_, hP.2⟩
    rcases List.mem_append.mp hp with q | q
    · exact hP.1 p q
    · simp only [List.mem_cons, List.not_mem_nil, or_false] at q
      rcases q with rfl | rfl | rfl | rfl | rfl | rfl | rfl | rfl | rfl | rfl | rfl | rfl
      · exact h17.symm
      · exact w3
      · exact w4
      · exact w5
      · exact r6
      · exact r7
      · exact r8
      · exact c1
      · exact c2
      · exact n1
      · exact n2
      · rfl
  have hI : IPa (f_on1 a) := IPa_eq (a := a) rfl rfl rfl rfl rfl rfl hW.1
  refine Or.inl ⟨⟨rfl, ⟨hI, hW.2.1, hV⟩, ?_, ?_, ?_⟩, r1, 0, by omega, r1, fun q => by omega⟩
  · obtain ⟨c, ⟨hc, hc1, hc8⟩, -⟩ := hW.1
    exact ⟨c, hc, hc8, ⟨0, by omega, w4⟩, Or.inl w5⟩
  · exact ⟨Or.inl r6, Or.inl r7, ⟨32, by omega, by omega, r8⟩, ⟨0, 0, n1, n2, by omega, by omega⟩, ⟨⟨0, by omega, c1⟩, o16⟩, o2, 4, by omega, rfl⟩
  · exact Or.inl ⟨r5, Or.inl rfl, 0, by omega, rfl⟩
theorem g_w_17 {b : rz_M} (h : ¬ b 19 12 = 0) (h1 : b 19 17 = 1) : g_w b 19 17 = 1 := by
  unfold g_w
  rw [if_pos h]
  split
  · exact h1
  · exact h1
theorem g_seL_17 : ∀ (d i : Nat) (b : rz_M), (g_seL d i b).1 = 1 → b 19 17 = 1 → (g_seL d i b).2 19 17 = 1
  | 0, i, b => by
    intro q h
    unfold g_seL at q ⊢
    by_cases h0 : b 19 12 = 0
    · rw [if_pos h0] at q; exact absurd (show (0 : Int32) = 1 from q) (by decide)
    · rw [if_neg h0]
      exact g_w_17 h0 h
  | d + 1, i, b => by
    intro q h
    unfold g_seL at q ⊢
    by_cases h0 : b 19 12 = 0
    · rw [if_pos h0] at q; exact absurd (show (0 : Int32) = 1 from q) (by decide)
    · rw [if_neg h0] at q ⊢
      exact g_seL_17 d (i + 1) _ q (g_w_17 h0 h)
theorem on_ok {a b : rz_M} (h : BR a b) : ∃ f p : Nat, (a 6 5 = 0 ∨ (a 6 4 = nI (a 6 4).toNatClampNeg ∧ (a 6 4).toNatClampNeg ≤ 24)) ∧ (b 19 16 ≤ 0 ∨ (b 19 16 = nI (a 6 4).toNatClampNeg ∧ b 19 14 = nI f ∧ b 19 15 = nI p ∧ f < 8 ∧ p + (a 6 4).toNatClampNeg ≤ 24)) ∧ SAME (f_on (a 6 4).toNatClampNeg a) (g_on (a 6 4).toNatClampNeg b) := by
  obtain ⟨o2, o16⟩ := BR_oct h
  have hW := BR_WI h
  have hW1 : WI zP (f_pd a) (rz_up b 19 17 1) := by
    have := pd_WI hW
    exact ⟨this.1, this.2.1, RP_r this.2.2 (by decide) (by decide)⟩
  have rst : RST (f_pd a) := ⟨rfl, rfl, rfl, rfl, rfl, rfl, rfl, rfl, rfl, rfl, rfl, rfl⟩
  rcases hW.2.1.1 with ⟨q1, q2⟩ | ⟨q1, n, f, p, q2, q3, n1, q4, f8, q5, p24⟩
  · have z : b 19 16 ≤ 0 := by rw [q2]; decide
    refine ⟨0, 0, Or.inl q1, Or.inl z, ?_⟩
    unfold f_on g_on
    rw [if_pos q1, if_pos z]
    exact ⟨rfl, on1_ok hW1 rst rfl o2 o16⟩
  · have e14 : b 19 14 = nI f := (RL_at (Or.inl rfl) hW.2.2 (k := 6) (j := 2) (by decide)).symm.trans q4
    have e15 : b 19 15 = nI p := (RL_at (Or.inl rfl) hW.2.2 (k := 6) (j := 3) (by decide)).symm.trans q5
    rw [nc q2 (by omega)]
    refine ⟨f, p, Or.inr ⟨q2, by omega⟩, Or.inr ⟨q3, e14, e15, f8, p24⟩, ?_⟩
    unfold f_on g_on
    rw [if_neg (show ¬ a 6 5 = 0 by rw [q1]; decide), if_neg (show ¬ b 19 16 ≤ 0 by rw [q3]; exact nI_nle (by omega) (by omega))]
    have ne : ∀ k, k ≠ 6 → k ≠ 13 → (f_coL n 0 (f_pd a)).2 k = f_pd a k := fun k h1 h2 => f_coL_ne n 0 (f_pd a) h1 h2
    have k17 : (g_seL n 0 (rz_up b 19 17 1)).1 = 1 → (g_seL n 0 (rz_up b 19 17 1)).2 19 17 = 1 := fun q => g_seL_17 n 0 _ q rfl
    rcases co_ok (Or.inl rfl) p24 f8 n 0 (f_pd a) (rz_up b 19 17 1) (by omega) hW1 q1 q3 q4 q5 with ⟨z1, z2, z3⟩ | ⟨z1, z2, z3, z4⟩
    · rw [z1, z2, if_neg (fun q => q rfl), if_neg (fun q => q rfl)]
      refine ⟨rfl, Or.inr ⟨⟨?_, z3.2.1, ?_, z3.2.2, z3.1, ?_, ?_⟩, ?_⟩⟩
      · rw [ne 0 (by decide) (by decide)]; rfl
      · rw [ne 1 (by decide) (by decide)]; rfl
      · rw [ne 2 (by decide) (by decide)]; exact o2
      · rw [ne 16 (by decide) (by decide)]; exact o16
      · show (f_coL n 0 (f_pd a)).2 1 1 = 0
        rw [ne 1 (by decide) (by decide)]; rfl
    · have t17 := k17 z2
      rw [z1, z2, if_pos (show ¬ (1 : Int32) = 0 by decide), if_pos (show ¬ (1 : Int32) = 0 by decide)]
      refine ⟨rfl, on1_ok z3 (RST_eq (ne 1 (by decide) (by decide)) (ne 5 (by decide) (by decide)) (ne 15 (by decide) (by decide)) (ne 17 (by decide) (by decide)) rst) t17 ?_ ?_⟩
      · rw [ne 2 (by decide) (by decide)]; exact o2
      · rw [ne 16 (by decide) (by decide)]; exact o16
