theorem ON_11 {a b : rz_M} {x : Int32} (h : ON a b) : ON (rz_up a 1 1 x) b := by
  obtain ⟨h0, hW, hD, hB, hRp⟩ := h
  exact ⟨h0, ⟨IPa_up (k := 1) (by decide) hW.1, hW.2.1, RL_l okV hW.2.2 (by decide) (by decide)⟩, DC_eq (a := a) rfl rfl rfl hD, hB, hRp⟩
theorem OFF_11 {a b : rz_M} {x : Int32} (h : OFF a b) : OFF (rz_up a 1 1 x) b := by
  obtain ⟨h0, h1, h2, h3, hW, hO⟩ := h
  exact ⟨h0, h1, h2, h3, ⟨IPa_up (k := 1) (by decide) hW.1, hW.2.1, RL_l (Or.inl rfl) hW.2.2 (by decide) (by decide)⟩, hO⟩
theorem ONF_11 {a b : rz_M} {x : Int32} (h : ONF a b) : ONF (rz_up a 1 1 x) b := h.elim (fun q => Or.inl (ON_11 q)) (fun q => Or.inr (OFF_11 q))
theorem an1_0 {a b : rz_M} (h : ONF a b) : ONF (f_an1 (0, a)) b := by
  unfold f_an1
  rw [if_pos rfl]
  exact ONF_11 h
theorem an1_e {a b : rz_M} {e : Int32} (h : ON a b) (he : e = 1 ∨ e = 2) : ONF (f_an1 (e, a)) (g_R e b) := by
  unfold f_an1
  rw [if_neg (show ¬ e = 0 by rcases he with rfl | rfl <;> decide)]
  exact Or.inl (ON_11 (rdy_ok h (Or.inr he)))
theorem f_an1_ite {c : Prop} {_ : Decidable c} {x y : Int32 × rz_M} : f_an1 (if c then x else y) = if c then f_an1 x else f_an1 y := by
  split <;> rfl
theorem I_bits {p : Nat} (h : p = 0 ∨ p = 32 ∨ p = 64 ∨ p = 96) : (nI p >>> ((6 : Int32) &&& 31)) &&& 1 = nI (p / 64) ∧ (if nI p &&& 32 = 0 then (0 : Int32) else 1) = (if p % 64 = 32 then 1 else 0) := by
  rcases h with rfl | rfl | rfl | rfl <;> decide
theorem R_bits {p : Nat} (h : p = 128 ∨ p = 129 ∨ p = 130 ∨ p = 144 ∨ p = 145 ∨ p = 146) : (nI p >>> ((4 : Int32) &&& 31)) &&& 1 = nI ((p - 128) / 16) := by
  rcases h with rfl | rfl | rfl | rfl | rfl | rfl <;> decide
theorem JT_of {a b : rz_M} (h : ON a b) : JT b := by
  obtain ⟨h0, hW, hD, hB, hRp⟩ := h
  have e151 : a 15 1 = b 19 31 := vV hW.2.2 (by decide)
  have e16 : a 16 = b 28 := hW.2.2.2 (16, 28) (by decide)
  obtain ⟨⟨l, hl, el⟩, ho⟩ := hB.2.2.2.2.1
  exact ⟨⟨l, hl, e151 ▸ el⟩, e16 ▸ ho⟩
theorem O27_of {a b : rz_M} (h : ON a b) : OCT (b 27) := by
  have e2 : a 2 = b 27 := h.2.1.2.2.2 (2, 27) (by decide)
  exact e2 ▸ h.2.2.2.1.2.2.2.2.2.1
theorem AP_of {a b : rz_M} (h : ON a b) : AP b := by
  obtain ⟨h0, hW, hD, hB, hRp⟩ := h
  have hR := hW.2.2
  have e32 : a 17 1 = b 19 32 := vV hR (by decide)
  have e33 : a 17 2 = b 19 33 := vV hR (by decide)
  have e24 : a 1 8 = b 19 24 := vV hR (by decide)
  obtain ⟨aa, s, ha, hs, hsa, h26⟩ := hB.2.2.2.1
  obtain ⟨z, z1, z32, hz⟩ := hB.2.2.1
  have hr : ∃ r : Nat, b 19 35 = nI r ∧ r ≤ 36 := by
    rcases hRp with ⟨-, -, r, hr, e⟩ | ⟨r, -, hr, -, e, -⟩
    · exact ⟨r, e, hr⟩
    · exact ⟨r, e, hr⟩
  obtain ⟨r, er, hr⟩ := hr
  exact ⟨aa, s, z, r, e32 ▸ ha, e33 ▸ hs, e24 ▸ hz, hsa, h26, z32, er, hr⟩
theorem CP_of {a b : rz_M} (h : ON a b) {l : Nat} (hl : a 2 2 = nI l) (hl32 : l ≤ 32) : CP l b := by
  obtain ⟨h1, h2, h3⟩ := cm0_ok h hl hl32
  exact ⟨IX_of h1 h2, (done_ok h1 h2 h3).1⟩
theorem WP_of {a b : rz_M} (h : ON a b) {p l : Nat} (hl : a 2 2 = nI l) (hl32 : l ≤ 32) : WP p l b := ⟨JT_of h, O27_of h, fun _ => CP_of h hl hl32, AP_of h⟩
theorem IA_of {a b : rz_M} (h : ON a b) : IA a := by
  obtain ⟨h0, hW, hD, hB, hRp⟩ := h
  obtain ⟨c', ⟨hc', c1', c8'⟩, hz, -⟩ := hW.1
  refine ⟨⟨⟨c', hc', c1', c8'⟩, hz⟩, hB.2.2.2.2.1, hB.2.2.2.2.2.1, hB.2.2.2.1, hB.2.2.1, ?_⟩
  rcases hRp with ⟨e, -⟩ | ⟨r, -, hr, e, -⟩
  · exact ⟨0, by omega, e⟩
  · exact ⟨r, hr, e⟩
theorem tR_ok {a b : rz_M} (h : ON a b) (n : Int32) : ONF (f_an1 (if n = a 1 7 ∧ ¬ a 17 1 - a 17 2 ≤ 0 then (0, f_pc a) else if ¬ n = a 1 7 ∧ ¬ a 1 5 ≤ 0 then (0, f_again (a 1 5).toNatClampNeg a) else (0, f_rdy 0 a))) (g_asks n b) := by
  obtain ⟨h0, hW, hD, hB, hRp⟩ := id h
  have hR := hW.2.2
  have e7 : a 1 7 = b 19 23 := vV hR (by decide)
  have e32 : a 17 1 = b 19 32 := vV hR (by decide)
  have e33 : a 17 2 = b 19 33 := vV hR (by decide)
  obtain ⟨aa, s, ha, hs, hsa, h26⟩ := hB.2.2.2.1
  rw [f_an1_ite, f_an1_ite]
  unfold g_asks
  rw [← e7, ← e32, ← e33]
  have c1 : (a 17 1 - a 17 2 ≤ 0) ↔ a 17 1 ≤ a 17 2 := by
    rw [ha, hs, pk_sub hsa]
    constructor
    · intro q
      have := (nI_leI (b := 0) (by omega) (by omega)).mp q
      exact nI_le (by omega) (by omega)
    · intro q
      have := (nI_leI (by omega) (by omega)).mp q
      exact nI_le (b := 0) (by omega) (by omega)
  refine R2 ONF ?_ (fun _ => an1_0 (Or.inl (piece_ok h))) (fun _ => R2 ONF ?_ (fun q => ?_) (fun _ => an1_0 (Or.inl (rdy_ok h (Or.inl rfl)))))
  · rw [c1]
  · rcases hRp with ⟨e, q, -⟩ | ⟨r, r4, r36, e, e35, e36, -⟩
    · constructor
      · intro w
        exact absurd (by rw [e]; decide) w.2
      · intro w
        rcases q with q | q
        · exact absurd (by rw [q]; decide) w.2.1
        · exact absurd q w.2.2
    · rw [e, e35, e36]
      exact ⟨fun w => ⟨w.1, w.2, by decide⟩, fun w => ⟨w.1, w.2.1⟩⟩
  · rcases hRp with ⟨e, -⟩ | ⟨r, r4, r36, e, e35, e36, hj⟩
    · exact absurd (by rw [e]; decide) q.2
    · rw [nc e (by omega), nc e35 (by omega)]
      exact an1_0 (Or.inl (again_ok h r4 r36 hj))
theorem forget_ok {a b : rz_M} (h : ON a b) : ON (f_forget a) (g_forget b) := by
  obtain ⟨h0, hW, hD, hB, hRp⟩ := h
  unfold f_forget g_forget
  refine ⟨h0, ⟨IPa_up (k := 17) (by decide) (IPa_up (k := 17) (by decide) (IPa_up (k := 15) (by decide) (IPa_up (k := 15) (by decide) hW.1))), hW.2.1, ?_⟩, DC_eq (a := a) rfl rfl rfl hD, ?_, hRp⟩
  · exact RL_up okV (RL_up okV (RL_up okV (RL_up okV hW.2.2 (by decide) rfl) (by decide) rfl) (by decide) rfl) (by decide) rfl
  · exact ⟨hB.1, hB.2.1, hB.2.2.1, ⟨0, 0, rfl, rfl, by omega, by omega⟩, ⟨⟨0, by omega, rfl⟩, hB.2.2.2.2.1.2⟩, hB.2.2.2.2.2.1, hB.2.2.2.2.2.2⟩
theorem begin_ok {a b : rz_M} (h : ON a b) : ON (f_resync (f_forget a)) (g_begin b) := by
  have h1 : ON (f_resync a) (rz_up (rz_up (rz_up b 19 22 0) 19 23 0) 19 35 0) := by
    obtain ⟨h0, hW, hD, hB, hRp⟩ := h
    unfold f_resync
    refine ⟨h0, ⟨IPa_up (k := 1) (by decide) (IPa_up (k := 1) (by decide) (IPa_up (k := 1) (by decide) hW.1)), hW.2.1, ?_⟩, DC_eq (a := a) rfl rfl rfl hD, ?_, ?_⟩
    · exact RL_l okV (RL_r okV (RL_up okV (RL_up okV hW.2.2 (by decide) rfl) (by decide) rfl) (by decide) (by decide)) (by decide) (by decide)
    · exact ⟨Or.inl rfl, Or.inl rfl, hB.2.2.1, hB.2.2.2.1, hB.2.2.2.2.1, hB.2.2.2.2.2.1, hB.2.2.2.2.2.2⟩
    · exact Or.inl ⟨rfl, Or.inl rfl, 0, by omega, rfl⟩
  have h2 := forget_ok h1
  have e : f_forget (f_resync a) = f_resync (f_forget a) := by
    unfold f_forget f_resync
    rw [rz_up_comm (k := 1) (k2 := 15) (Or.inl (by decide)), rz_up_comm (k := 1) (k2 := 15) (Or.inl (by decide)), rz_up_comm (k := 1) (k2 := 15) (Or.inl (by decide)), rz_up_comm (k := 1) (k2 := 15) (Or.inl (by decide)), rz_up_comm (k := 1) (k2 := 15) (Or.inl (by decide)), rz_up_comm (k := 1) (k2 := 15) (Or.inl (by decide)), rz_up_comm (k := 1) (k2 := 17) (Or.inl (by decide)), rz_up_comm (k := 1) (k2 := 17) (Or.inl (by decide)), rz_up_comm (k := 1) (k2 := 17) (Or.inl (by decide)), rz_up_comm (k := 1) (k2 := 17) (Or.inl (by decide)), rz_up_comm (k := 1) (k2 := 17) (Or.inl (by decide)), rz_up_comm (k := 1) (k2 := 17) (Or.inl (by decide))]
  rw [e] at h2
  exact h2
/-- what a BLOCK that isn't wrong makes -/
theorem dsp_ok {a b : rz_M} (h : ON a b) {p l : Nat} (hp : a 2 1 = nI p) (hp255 : p ≤ 255) (hl : a 2 2 = nI l) (hl32 : l ≤ 32) : ONF (f_an1 (f_dsp a)) (g_work p l b) := by
  have e2 : a 2 = b 27 := h.2.1.2.2.2 (2, 27) (by decide)
  have e6 : a 1 6 = b 19 22 := vV h.2.1.2.2 (by decide)
  have eqp : ∀ k : Nat, k < 2147483648 → (nI p = nI k ↔ p = k) := fun k hk => nI_eq (by omega) hk
  unfold f_dsp g_work
  rw [hp, f_an1_ite]
  refine R2 ONF ?_ (fun hI => ?_) (fun _ => ?_)
  · constructor
    · rintro (q | q | q | q)
      · have := (eqp 0 (by omega)).mp q; omega
      · have := (eqp 32 (by omega)).mp q; omega
      · have := (eqp 64 (by omega)).mp q; omega
      · have := (eqp 96 (by omega)).mp q; omega
    · intro q
      have : p = 0 ∨ p = 32 ∨ p = 64 ∨ p = 96 := by omega
      rcases this with q | q | q | q <;> subst q
      · exact Or.inl rfl
      · exact Or.inr (Or.inl rfl)
      · exact Or.inr (Or.inr (Or.inl rfl))
      · exact Or.inr (Or.inr (Or.inr rfl))
  · have hpc : p = 0 ∨ p = 32 ∨ p = 64 ∨ p = 96 := by
      rcases hI with q | q | q | q
      · have := (eqp 0 (by omega)).mp q; omega
      · have := (eqp 32 (by omega)).mp q; omega
      · have := (eqp 64 (by omega)).mp q; omega
      · have := (eqp 96 (by omega)).mp q; omega
    obtain ⟨b1, b2'⟩ := I_bits hpc
    rw [b1, b2']
    unfold f_tI
    rw [f_an1_ite, ← e6]
    refine R2 ONF Iff.rfl (fun _ => an1_0 ?_) (fun _ => an1_e h (Or.inr rfl))
    obtain ⟨h1, h2, h3⟩ := cm0_ok h hl hl32
    unfold g_comes
    by_cases q : p % 64 = 32
    · rw [if_pos q]
      unfold f_tI1 g_cm1
      rw [if_neg (show ¬ (1 : Int32) = 0 by decide), if_neg (show ¬ (1 : Int32) = 0 by decide)]
      exact Or.inl (rdy_ok h1 (Or.inl rfl))
    · rw [if_neg q]
      exact (done_ok h1 h2 h3).2
  · rw [f_an1_ite]
    refine R2 ONF ?_ (fun hI => ?_) (fun nR => ?_)
    · constructor
      · rintro (q | q | q | q | q | q)
        · have := (eqp 128 (by omega)).mp q; omega
        · have := (eqp 129 (by omega)).mp q; omega
        · have := (eqp 130 (by omega)).mp q; omega
        · have := (eqp 144 (by omega)).mp q; omega
        · have := (eqp 145 (by omega)).mp q; omega
        · have := (eqp 146 (by omega)).mp q; omega
      · intro q
        have : p = 128 ∨ p = 129 ∨ p = 130 ∨ p = 144 ∨ p = 145 ∨ p = 146 := by omega
        rcases this with q | q | q | q | q | q <;> subst q
        · exact Or.inl rfl
        · exact Or.inr (Or.inl rfl)
        · exact Or.inr (Or.inr (Or.inl rfl))
        · exact Or.inr (Or.inr (Or.inr (Or.inl rfl)))
        · exact Or.inr (Or.inr (Or.inr (Or.inr (Or.inl rfl))))
        · exact Or.inr (Or.inr (Or.inr (Or.inr (Or.inr rfl))))
    · have hpc : p = 128 ∨ p = 129 ∨ p = 130 ∨ p = 144 ∨ p = 145 ∨ p = 146 := by
        rcases hI with q | q | q | q | q | q
        · have := (eqp 128 (by omega)).mp q; omega
        · have := (eqp 129 (by omega)).mp q; omega
        · have := (eqp 130 (by omega)).mp q; omega
        · have := (eqp 144 (by omega)).mp q; omega
        · have := (eqp 145 (by omega)).mp q; omega
        · have := (eqp 146 (by omega)).mp q; omega
      rw [R_bits hpc]
      unfold f_tR
      rw [f_an1_ite, hl]
      by_cases q : l = 0
      · have q' : nI l = 0 := by rw [q]; rfl
        rw [if_pos q', if_neg (show ¬ 0 < l by omega)]
        exact tR_ok h _
      · have q' : ¬ nI l = 0 := nI_ne0 (by omega) (by omega)
        rw [if_neg q', if_pos (show 0 < l by omega)]
        exact an1_e h (Or.inr rfl)
    · rw [f_an1_ite]
      by_cases h192 : p = 192
      · subst h192
        rw [if_pos (show nI 192 = 192 ∨ nI 192 = 193 ∨ nI 192 = 194 from Or.inl rfl)]
        unfold f_tS
        rw [if_neg (show ¬ nI 192 = 193 by decide), f_an1_ite, f_an1_ite, hl]
        by_cases q : l = 0
        · have q' : nI l = 0 := by rw [q]; rfl
          rw [if_pos q', if_pos (show nI 192 = 192 from rfl), if_pos ⟨rfl, q⟩]
          exact an1_0 (Or.inl (sup_ok (begin_ok h) (by decide)))
        · have q' : ¬ nI l = 0 := nI_ne0 (by omega) (by omega)
          rw [if_neg q', if_neg (fun w => q w.2), if_neg (fun w => absurd w.1.1 (by decide)), if_neg (fun w => absurd w.1 (by decide))]
          exact an1_e h (Or.inr rfl)
      · rw [if_neg (show ¬ (p = 192 ∧ l = 0) from fun w => h192 w.1)]
        by_cases h193 : p = 193
        · subst h193
          rw [if_pos (show nI 193 = 192 ∨ nI 193 = 193 ∨ nI 193 = 194 from Or.inr (Or.inl rfl))]
          unfold f_tS
          rw [if_pos (show nI 193 = 193 from rfl), f_an1_ite, hl]
          by_cases q : l = 1
          · have q' : nI l = 1 := by rw [q]; rfl
            rw [if_pos q']
            obtain ⟨o, ho255, ho⟩ := h.2.2.2.1.2.2.2.2.2.1 3
            unfold f_tz
            rw [f_an1_ite, f_an1_ite, ← e2]
            by_cases w1 : a 2 3 < 1
            · rw [if_pos w1, if_neg (fun w => w.2.1 w1), if_neg (fun w => absurd w.1 (by decide))]
              exact an1_e h (Or.inr rfl)
            · rw [if_neg w1]
              by_cases w2 : a 2 3 ≤ 32
              · rw [if_pos w2, if_pos ⟨⟨rfl, q⟩, w1, Int32.not_lt.mpr w2⟩]
                refine an1_0 (Or.inl (size_ok h ho ?_ ?_))
                · rw [ho] at w1
                  rcases Nat.lt_or_ge o 1 with r | r
                  · exact absurd (nI_lt (b := 1) r (by omega)) w1
                  · exact r
                · rw [ho] at w2
                  exact (nI_leI (b := 32) (by omega) (by omega)).mp w2
              · rw [if_neg w2, if_neg (fun w => w.2.2 (Int32.not_le.mp w2)), if_neg (fun w => absurd w.1 (by decide))]
                exact an1_e h (Or.inr rfl)
          · have q' : ¬ nI l = 1 := by
              intro w
              have := (nI_eq (b := 1) (by omega) (by omega)).mp w
              exact q this
            rw [if_neg q', if_neg (fun w => q w.1.2), if_neg (fun w => absurd w.1 (by decide))]
            exact an1_e h (Or.inr rfl)
        · rw [if_neg (show ¬ ((p = 193 ∧ l = 1) ∧ (¬ b 27 3 < 1 ∧ ¬ 32 < b 27 3)) from fun w => h193 w.1.1)]
          by_cases h194 : p = 194
          · subst h194
            rw [if_pos (show nI 194 = 192 ∨ nI 194 = 193 ∨ nI 194 = 194 from Or.inr (Or.inr rfl))]
            unfold f_tS
            rw [if_neg (show ¬ nI 194 = 193 by decide), f_an1_ite, f_an1_ite, hl]
            by_cases q : l = 0
            · have q' : nI l = 0 := by rw [q]; rfl
              rw [if_pos q', if_neg (show ¬ nI 194 = 192 by decide), if_pos ⟨rfl, q⟩]
              exact an1_0 (Or.inl (sup_ok (forget_ok h) (by decide)))
            · have q' : ¬ nI l = 0 := nI_ne0 (by omega) (by omega)
              rw [if_neg q', if_neg (fun w => q w.2)]
              exact an1_e h (Or.inr rfl)
          · rw [if_neg (show ¬ (nI p = 192 ∨ nI p = 193 ∨ nI p = 194) from fun w => by
              rcases w with w | w | w
              · exact h192 ((eqp 192 (by omega)).mp w)
              · exact h193 ((eqp 193 (by omega)).mp w)
              · exact h194 ((eqp 194 (by omega)).mp w)), if_neg (show ¬ (p = 194 ∧ l = 0) from fun w => h194 w.1)]
            exact an1_e h (Or.inr rfl)
