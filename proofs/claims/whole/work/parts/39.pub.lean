/-! THE PUBLIC CALLS: what the class answers the reference answers, and the relation is kept -/
def SAME (r q : Int32 × rz_M) : Prop := r.1 = q.1 ∧ BR r.2 q.2
theorem BR_WI {a b : rz_M} (h : BR a b) : WI zP a b := by
  rcases h with h | h
  · exact ⟨h.1.2.1.1, h.1.2.1.2.1, RL_zP okV h.1.2.1.2.2⟩
  · exact h.1.2.2.2.2.1
theorem BR_at {a b : rz_M} (h : BR a b) {k j k' j' : Nat} (hm : ((k, j), (k', j')) ∈ zP) : a k j = b k' j' := (BR_WI h).2.2.1 _ hm
theorem BR_ar {a b : rz_M} (h : BR a b) {k k' : Nat} (hm : (k, k') ∈ zA) : a k = b k' := (BR_WI h).2.2.2 _ hm
theorem BR_on {a b : rz_M} (h : BR a b) : a 0 3 = b 19 17 ∧ (a 0 3 = 0 ∨ a 0 3 = 1) := by
  rcases h with h | h
  · exact ⟨vV h.1.2.1.2.2 (by decide), Or.inr h.1.1⟩
  · exact ⟨h.1.1.trans h.1.2.1.symm, Or.inl h.1.1⟩
theorem BR_13 {a b : rz_M} (h : BR a b) : a 1 3 = b 19 34 ∧ ∃ r : Nat, r ≤ 36 ∧ a 1 3 = nI r := by
  rcases h with h | h
  · exact ⟨vV h.1.2.1.2.2 (by decide), h.1.2.2.2.1.2.2.2.2.2.2⟩
  · exact ⟨h.1.2.2.1.trans h.1.2.2.2.1.symm, 0, by omega, h.1.2.2.1⟩
theorem cnt {k : Int32} {r : Nat} (hr : r < 2147483648) (hk : ¬ k < 0) : (nI r ≤ k ↔ nI r - 1 < k) := by
  obtain ⟨j, hj, rfl⟩ := nI_of hk
  rcases Nat.eq_zero_or_pos r with q | q
  · subst q
    constructor
    · intro _
      have : nI 0 - 1 = -1 := by decide
      rw [this, i_lt, nI_toInt hj]
      have e1 : (-1 : Int32).toInt = -1 := rfl
      omega
    · intro _
      exact nI_le (by omega) hj
  · rw [show r = (r - 1) + 1 by omega, nI_pred]
    constructor
    · intro w
      have := (nI_leI (by omega) hj).mp w
      exact nI_lt (by omega) hj
    · intro w
      have := (nI_ltI (by omega) hj).mp w
      exact nI_le (by omega) hj
theorem reply_ok {a b : rz_M} (h : BR a b) (k : Int32) : v_reply k a = w_reply k b ∧ a 1 3 ≤ 36 ∧ (¬ k < 0 ∧ ¬ b 19 34 - 1 < k → vp_in k 40) := by
  obtain ⟨e, r, hr, er⟩ := BR_13 h
  have e3 : a 3 = b 30 := BR_ar h (by decide)
  refine ⟨?_, by rw [er]; exact nI_le (b := 36) hr (by omega), ?_⟩
  · unfold v_reply w_reply
    rw [← e, ← e3]
    by_cases h0 : k < 0
    · rw [if_pos h0, if_neg (fun q => q.1 h0)]
    · rw [if_neg h0]
      have c := cnt (r := r) (by omega) h0
      rw [← er] at c
      by_cases h1 : a 1 3 ≤ k
      · rw [if_pos h1, if_neg (fun q => q.2 (c.mp h1))]
      · rw [if_neg h1, if_pos ⟨h0, fun q => h1 (c.mpr q)⟩]
  · rintro ⟨h0, h1⟩
    rw [← e] at h1
    have c := cnt (r := r) (by omega) h0
    rw [← er] at c
    have h2 : ¬ a 1 3 ≤ k := fun q => h1 (c.mp q)
    obtain ⟨j, hj, rfl⟩ := nI_of h0
    rw [er] at h2
    refine vp_in_nI ?_ (by omega)
    rcases Nat.lt_or_ge j r with q | q
    · omega
    · exact absurd (nI_le q hj) h2
theorem BR_cnt {a b : rz_M} (h : BR a b) : ∃ c : Nat, a 7 6 = nI c ∧ 1 ≤ c ∧ c ≤ 8 ∧ a 7 6 = b 19 6 ∧ (∀ f : Int32, (¬ f < 0 ∧ ¬ a 7 6 ≤ f) ↔ (¬ f < 0 ∧ ¬ b 19 6 - 1 < f)) ∧ (∀ f : Int32, ¬ f < 0 ∧ ¬ a 7 6 ≤ f → ∃ j : Nat, j < c ∧ f = nI j) := by
  obtain ⟨c, ⟨hc, c1, c8⟩, -⟩ := (BR_WI h).1
  have e : a 7 6 = b 19 6 := BR_at h (by decide)
  refine ⟨c, hc, c1, c8, e, fun f => ?_, fun f hf => ?_⟩
  · rw [← e, hc]
    exact ⟨fun q => ⟨q.1, fun w => q.2 ((cnt (by omega) q.1).mpr w)⟩, fun q => ⟨q.1, fun w => q.2 ((cnt (by omega) q.1).mp w)⟩⟩
  · obtain ⟨j, hj, rfl⟩ := nI_of hf.1
    refine ⟨j, ?_, rfl⟩
    rcases Nat.lt_or_ge j c with q | q
    · exact q
    · exact absurd (by rw [hc]; exact nI_le q hj) hf.2
theorem look_ok {a b : rz_M} (h : BR a b) (f x : Int32) : v_look f x a = w_look f x b ∧ a 7 6 ≤ 8 ∧ (¬ f < 0 ∧ ¬ b 19 6 - 1 < f → vp_in f 8) := by
  obtain ⟨c, hc, c1, c8, e, hi, hj⟩ := BR_cnt h
  refine ⟨?_, by rw [hc]; exact nI_le (b := 8) c8 (by omega), fun q => ?_⟩
  · unfold v_look w_look
    rw [BR_ar h (k := 8) (k' := 20) (by decide), BR_ar h (k := 9) (k' := 21) (by decide), BR_ar h (k := 10) (k' := 22) (by decide), BR_ar h (k := 11) (k' := 23) (by decide), BR_ar h (k := 12) (k' := 24) (by decide)]
    by_cases q : ¬ f < 0 ∧ ¬ a 7 6 ≤ f
    · rw [if_pos q, if_pos ((hi f).mp q)]
    · rw [if_neg q, if_neg (fun w => q ((hi f).mpr w))]
  · obtain ⟨j, hj, rfl⟩ := hj f ((hi f).mpr q)
    exact vp_in_nI (by omega) (by omega)
theorem stored_ok {a b : rz_M} (h : BR a b) (f k : Int32) : v_stored f k a = w_stored f k b ∧ a 7 6 ≤ 8 ∧ (p_ho a f k → ¬ 24 ≤ k) ∧ (¬ f < 0 ∧ ¬ b 19 6 - 1 < f → vp_in f 8 ∧ (¬ k < 0 ∧ ¬ b 22 f.toNatClampNeg - 1 < k → vp_in (24 * f + k) 192)) := by
  obtain ⟨c, hc, c1, c8, e, hi, hj⟩ := BR_cnt h
  obtain ⟨c', -, hz, -⟩ := (BR_WI h).1
  have e10 : a 10 = b 22 := BR_ar h (by decide)
  have e13 : a 13 = b 25 := BR_ar h (by decide)
  have key : p_ho a f k ↔ (¬ f < 0 ∧ ¬ b 19 6 - 1 < f) ∧ (¬ k < 0 ∧ ¬ b 22 f.toNatClampNeg - 1 < k) := by
    rw [← hi f, ← e10]
    constructor
    · rintro ⟨q1, q2, q3, q4⟩
      obtain ⟨j, hjc, rfl⟩ := hj f ⟨q1, q2⟩
      rw [nI_clamp (by omega)] at q4 ⊢
      obtain ⟨z, hz24, ez⟩ := hz j (by omega)
      rw [ez] at q4 ⊢
      exact ⟨⟨q1, q2⟩, q3, fun w => q4 ((cnt (by omega) q3).mpr w)⟩
    · rintro ⟨⟨q1, q2⟩, q3, q4⟩
      obtain ⟨j, hjc, rfl⟩ := hj f ⟨q1, q2⟩
      refine ⟨q1, q2, q3, ?_⟩
      rw [nI_clamp (by omega)] at q4 ⊢
      obtain ⟨z, hz24, ez⟩ := hz j (by omega)
      rw [ez] at q4 ⊢
      exact fun w => q4 ((cnt (by omega) q3).mp w)
  have val : p_ho a f k → ∃ j i : Nat, j < 8 ∧ i < 24 ∧ f = nI j ∧ k = nI i := by
    rintro ⟨q1, q2, q3, q4⟩
    obtain ⟨j, hjc, rfl⟩ := hj f ⟨q1, q2⟩
    obtain ⟨i, hi31, rfl⟩ := nI_of q3
    rw [nI_clamp (by omega)] at q4
    obtain ⟨z, hz24, ez⟩ := hz j (by omega)
    rw [ez] at q4
    refine ⟨j, i, by omega, ?_, rfl, rfl⟩
    rcases Nat.lt_or_ge i z with q | q
    · omega
    · exact absurd (nI_le q hi31) q4
  refine ⟨?_, by rw [hc]; exact nI_le (b := 8) c8 (by omega), fun q => ?_, fun q => ⟨?_, fun q2 => ?_⟩⟩
  · unfold v_stored w_stored
    by_cases q : p_ho a f k
    · rw [if_pos q, if_pos (key.mp q), ← e13, Int32.mul_comm]
    · rw [if_neg q, if_neg (fun w => q (key.mpr w))]
  · obtain ⟨j, i, hj8, hi24, rfl, rfl⟩ := val q
    exact nI_ge (a := i) (b := 24) hi24 (by omega)
  · obtain ⟨j, hj, rfl⟩ := hj f ((hi f).mpr q)
    exact vp_in_nI (by omega) (by omega)
  · obtain ⟨j, i, hj8, hi24, rfl, rfl⟩ := val (key.mpr ⟨q, q2⟩)
    rw [show (24 : Int32) = nI 24 from rfl, pk_mul, nI_add]
    exact vp_in_nI (by omega) (by omega)
theorem i_cases {x : Int32} (h0 : ¬ x < 0) (h15 : ¬ 15 < x) : ∃ j : Nat, j ≤ 15 ∧ x = nI j := by
  obtain ⟨j, hj, rfl⟩ := nI_of h0
  refine ⟨j, ?_, rfl⟩
  rcases Nat.lt_or_ge 15 j with q | q
  · exact absurd (nI_lt (a := 15) q hj) h15
  · exact q
theorem v_state_hi {a : rz_M} {j : Nat} (q : 8 ≤ j) (hj : j ≤ 15) : v_state (nI j) a = if a 0 3 = 0 then -1 else v_sw (nI j) a := by
  have : j = 8 ∨ j = 9 ∨ j = 10 ∨ j = 11 ∨ j = 12 ∨ j = 13 ∨ j = 14 ∨ j = 15 := by omega
  rcases this with rfl | rfl | rfl | rfl | rfl | rfl | rfl | rfl <;> rfl
theorem state_ok {a b : rz_M} (h : BR a b) (x : Int32) : v_state x a = w_state x b := by
  obtain ⟨e17, h01⟩ := BR_on h
  have e1 : a 7 6 = b 19 6 := BR_at h (by decide)
  have e2 : a 6 7 = b 19 8 := BR_at h (by decide)
  have e3 : a 6 6 = b 19 7 := BR_at h (by decide)
  have e5 : a 6 8 = b 19 9 := BR_at h (by decide)
  have e6 : a 6 9 = b 19 10 := BR_at h (by decide)
  have e7 : a 0 4 = b 19 11 := BR_at h (by decide)
  have e4 : (if a 6 5 = 0 then (0 : Int32) else 1) = (if b 19 16 ≤ 0 then 0 else 1) := by
    rcases (BR_WI h).2.1.1 with ⟨q1, q2⟩ | ⟨q1, n, f, p, -, q2, n1, -, -, -, q3⟩
    · rw [if_pos q1, if_pos (by rw [q2]; decide)]
    · rw [if_neg (by rw [q1]; decide), if_neg (by rw [q2]; exact nI_nle (by omega) (by omega))]
  unfold w_state
  by_cases hr : ¬ x < 0 ∧ ¬ 15 < x
  · rw [if_pos hr]
    obtain ⟨j, hj, rfl⟩ := i_cases hr.1 hr.2
    rcases Nat.lt_or_ge j 8 with q | q
    · unfold w_st
      rw [← e17, ← e1, ← e2, ← e3, ← e5, ← e6, ← e7, ← e4]
      have : j = 0 ∨ j = 1 ∨ j = 2 ∨ j = 3 ∨ j = 4 ∨ j = 5 ∨ j = 6 ∨ j = 7 := by omega
      rcases this with rfl | rfl | rfl | rfl | rfl | rfl | rfl | rfl <;> rfl
    · have n7 : ¬ nI j ≤ 7 := nI_ge (a := 7) (b := j) (by omega) (by omega)
      rw [v_state_hi q hj, ← e17]
      by_cases ho : a 0 3 = 0
      · rw [if_pos (show ¬ nI j ≤ 7 ∧ a 0 3 = 0 from ⟨n7, ho⟩), if_pos ho]
      · rw [if_neg (show ¬ (¬ nI j ≤ 7 ∧ a 0 3 = 0) from fun w => ho w.2), if_neg ho]
        have hon : ON a b := by
          rcases h with h | h
          · exact h.1
          · exact absurd h.1.1 ho
        have hR := hon.2.1.2.2
        unfold v_sw
        rw [vV hR (k := 5) (j := 3) (k' := 19) (j' := 18) (by decide), vV hR (k := 5) (j := 4) (k' := 19) (j' := 20) (by decide), vV hR (k := 5) (j := 5) (k' := 19) (j' := 21) (by decide), vV hR (k := 1) (j := 6) (k' := 19) (j' := 22) (by decide), vV hR (k := 1) (j := 7) (k' := 19) (j' := 23) (by decide), vV hR (k := 1) (j := 8) (k' := 19) (j' := 24) (by decide), vV hR (k := 15) (j := 1) (k' := 19) (j' := 31) (by decide), vV hR (k := 17) (j := 1) (k' := 19) (j' := 32) (by decide), vV hR (k := 17) (j := 2) (k' := 19) (j' := 33) (by decide)]
        have : j = 8 ∨ j = 9 ∨ j = 10 ∨ j = 11 ∨ j = 12 ∨ j = 13 ∨ j = 14 ∨ j = 15 := by omega
        rcases this with rfl | rfl | rfl | rfl | rfl | rfl | rfl | rfl <;> rfl
  · rw [if_neg hr]
    have n : ∀ k : Nat, k ≤ 15 → ¬ x = nI k := by
      intro k hk q
      apply hr
      rw [q]
      exact ⟨nI_pos (by omega), nI_nlt (b := k) (a := 15) hk (by omega)⟩
    unfold v_state v_sw
    have n0 : ¬ x = 0 := n 0 (by omega)
    have n1 : ¬ x = 1 := n 1 (by omega)
    have n2 : ¬ x = 2 := n 2 (by omega)
    have n3 : ¬ x = 3 := n 3 (by omega)
    have n4 : ¬ x = 4 := n 4 (by omega)
    have n5 : ¬ x = 5 := n 5 (by omega)
    have n6 : ¬ x = 6 := n 6 (by omega)
    have n7 : ¬ x = 7 := n 7 (by omega)
    have n8 : ¬ x = 8 := n 8 (by omega)
    have n9 : ¬ x = 9 := n 9 (by omega)
    have n10 : ¬ x = 10 := n 10 (by omega)
    have n11 : ¬ x = 11 := n 11 (by omega)
    have n12 : ¬ x = 12 := n 12 (by omega)
    have n13 : ¬ x = 13 := n 13 (by omega)
    have n14 : ¬ x = 14 := n 14 (by omega)
    have n15 : ¬ x = 15 := n 15 (by omega)
    rw [if_neg n0, if_neg n1, if_neg n2, if_neg n3, if_neg n4, if_neg n5, if_neg n6, if_neg n7, if_neg n8, if_neg n9, if_neg n10, if_neg n11, if_neg n12, if_neg n13, if_neg n14, if_neg n15]
    split <;> rfl
