/-! REPLIES: class and reference send the same -/
def REP (a b : rz_M) : Prop := (a 1 5 = 0 ∧ (b 19 35 = 0 ∨ b 19 36 = 0) ∧ ∃ r : Nat, r ≤ 36 ∧ b 19 35 = nI r) ∨ (∃ r : Nat, 4 ≤ r ∧ r ≤ 36 ∧ a 1 5 = nI r ∧ b 19 35 = nI r ∧ b 19 36 = 1 ∧ ∀ j, j < r → a 4 j = b 31 j)
def IB (a : rz_M) : Prop := (a 1 6 = 0 ∨ a 1 6 = 1) ∧ (a 1 7 = 0 ∨ a 1 7 = 1) ∧ ISz a ∧ IAn a ∧ JC a ∧ OCT (a 2) ∧ (∃ r : Nat, r ≤ 36 ∧ a 1 3 = nI r)
def ON (a b : rz_M) : Prop := a 0 3 = 1 ∧ WI zV a b ∧ DC a ∧ IB a ∧ REP a b
def OFF (a b : rz_M) : Prop := a 0 3 = 0 ∧ b 19 17 = 0 ∧ a 1 3 = 0 ∧ b 19 34 = 0 ∧ WI zP a b ∧ OCT (a 2) ∧ OCT (a 16)
theorem frD {f g : Nat → Int32} {x : Int32} {n : Nat} {d : Nat → Int32} (h1 : ∀ j, ¬ (3 ≤ j ∧ j < 3 + n) → g j = f j) (h2 : ∀ k, k < n → g (3 + k) = d k) : fr g x n (fun k => g (3 + k)) = fr f x n d := by
  have hx : ∀ m, m ≤ n → xr (x ^^^ nI n) (fun k => g (3 + k)) m = xr (x ^^^ nI n) d m := by
    intro m
    induction m with
    | zero => intro _; rfl
    | succ m ih => intro hm; rw [xr, xr, ih (by omega), h2 m (by omega)]
  unfold fr
  rw [hx n (Nat.le_refl n)]
  congr 1
  funext j
  unfold fa
  by_cases j0 : j = 0
  · rw [if_pos j0, if_pos j0]
  · rw [if_neg j0, if_neg j0]
    by_cases j1 : j = 1
    · rw [if_pos j1, if_pos j1]
    · rw [if_neg j1, if_neg j1]
      by_cases j2 : j = 2
      · rw [if_pos j2, if_pos j2]
      · rw [if_neg j2, if_neg j2]
        by_cases j3 : j < 3 + n
        · rw [if_pos j3, if_pos j3]; exact h2 (j - 3) (by omega)
        · rw [if_neg j3, if_neg j3]; exact h1 j (by omega)
theorem fr0 {f : Nat → Int32} {x : Int32} {d d' : Nat → Int32} : fr f x 0 d = fr f x 0 d' := by
  unfold fr
  congr 1
  funext j
  unfold fa
  split
  · rfl
  · split
    · rfl
    · split
      · rfl
      · rw [if_neg (by omega), if_neg (by omega)]
theorem bit_R {i e : Int32} (hi : i = 0 ∨ i = 1) (he : e = 0 ∨ e = 1 ∨ e = 2) : 128 + 16 * i + e < 192 ∧ 128 ≤ 128 + 16 * i + e := by
  rcases hi with rfl | rfl <;> rcases he with rfl | rfl | rfl <;> decide
/-- R -/
theorem rdy_ok {a b : rz_M} (h : ON a b) {e : Int32} (he : e = 0 ∨ e = 1 ∨ e = 2) : ON (f_rdy e a) (g_R e b) := by
  obtain ⟨h0, hW, hD, hB, hRp⟩ := h
  have hR := hW.2.2
  have e6 : a 1 6 = b 19 22 := vV hR (by decide)
  have e3 : a 3 = b 30 := hR.2 (3, 30) (by decide)
  obtain ⟨x1, x2⟩ := bit_R hB.1 he
  unfold f_rdy g_R f_say g_say
  rw [← e6, if_pos x1]
  unfold g_say1 g_say0
  refine ⟨h0, ⟨?_, hW.2.1, ?_⟩, DC_eq (a := a) rfl rfl rfl hD, ?_, ?_⟩
  · exact IPa_up (k := 1) (by decide) (IPa_up (k := 1) (by decide) (IPa_uf (k := 3) (by decide) hW.1))
  · refine RL_l okV (RL_fr okV (RL_r okV (RL_r okV (RL_up okV (RL_uf okV hR (by decide) ?_) (by decide) rfl) (by decide) (by decide)) (by decide) (by decide)) (by decide) (by decide)) (by decide) (by decide)
    rw [e3]; exact fr0
  · exact ⟨hB.1, hB.2.1, hB.2.2.1, hB.2.2.2.1, hB.2.2.2.2.1, hB.2.2.2.2.2.1, 4, by omega, rfl⟩
  · exact Or.inl ⟨rfl, Or.inr (if_pos x2), 4, by omega, rfl⟩
/-- S -/
theorem sup_ok {a b : rz_M} (h : ON a b) {x : Int32} (hx : ¬ x < 192) : ON (f_say x 0 (fun _ => 0) a) (g_say x 0 b) := by
  obtain ⟨h0, hW, hD, hB, hRp⟩ := h
  have hR := hW.2.2
  have e3 : a 3 = b 30 := hR.2 (3, 30) (by decide)
  unfold f_say g_say
  rw [if_neg hx]
  unfold g_say0
  refine ⟨h0, ⟨?_, hW.2.1, ?_⟩, DC_eq (a := a) rfl rfl rfl hD, ?_, ?_⟩
  · exact IPa_up (k := 1) (by decide) (IPa_uf (k := 3) (by decide) hW.1)
  · refine RL_up okV (RL_uf okV hR (by decide) ?_) (by decide) rfl
    rw [e3]; exact fr0
  · exact ⟨hB.1, hB.2.1, hB.2.2.1, hB.2.2.2.1, hB.2.2.2.2.1, hB.2.2.2.2.2.1, 4, by omega, rfl⟩
  · exact hRp
theorem size_ok {a b : rz_M} (h : ON a b) {s : Int32} {z : Nat} (hs : s = nI z) (z1 : 1 ≤ z) (z32 : z ≤ 32) : ON (f_say 225 1 (fun _ => s) (rz_up a 1 8 s)) (g_say 225 1 (rz_up (rz_up b 19 24 s) 30 3 s)) := by
  obtain ⟨h0, hW, hD, hB, hRp⟩ := h
  have hR := hW.2.2
  have e3 : a 3 = b 30 := hR.2 (3, 30) (by decide)
  unfold f_say g_say
  rw [if_neg (by decide)]
  unfold g_say0
  have ec : rz_uf (rz_up (rz_up b 19 24 s) 30 3 s) 30 (fr (rz_up (rz_up b 19 24 s) 30 3 s 30) 225 1 (fun k => rz_up (rz_up b 19 24 s) 30 3 s 30 (3 + k))) = rz_uf (rz_up b 19 24 s) 30 (fr (b 30) 225 1 (fun _ => s)) := by
    have : fr (rz_up (rz_up b 19 24 s) 30 3 s 30) 225 1 (fun k => rz_up (rz_up b 19 24 s) 30 3 s 30 (3 + k)) = fr (b 30) 225 1 (fun _ => s) := by
      refine frD (fun j hj => ?_) (fun k hk => ?_)
      · rw [rz_up_j (by omega)]; rfl
      · have : k = 0 := by omega
        subst this
        exact rz_up_at
    rw [this]
    funext k
    by_cases hk : k = 30
    · subst hk; rw [rz_uf_eq, rz_uf_eq]
    · rw [rz_uf_ne hk, rz_uf_ne hk, rz_up_k hk]
  rw [ec]
  refine ⟨h0, ⟨?_, hW.2.1, ?_⟩, DC_eq (a := a) rfl rfl rfl hD, ?_, ?_⟩
  · exact IPa_up (k := 1) (by decide) (IPa_uf (k := 3) (by decide) (IPa_up (k := 1) (by decide) hW.1))
  · refine RL_up okV (RL_uf okV (RL_up okV hR (k := 1) (j := 8) (k' := 19) (j' := 24) (by decide) rfl) (by decide) ?_) (by decide) rfl
    show fr (a 3) 225 1 (fun _ => s) = fr (b 30) 225 1 (fun _ => s)
    rw [e3]
  · exact ⟨hB.1, hB.2.1, ⟨z, z1, z32, hs⟩, hB.2.2.2.1, hB.2.2.2.2.1, hB.2.2.2.2.2.1, 5, by omega, rfl⟩
  · exact hRp
theorem bit_out {o : Int32} (h : o = 0 ∨ o = 1) : o ^^^ 1 = 1 - o ∧ (o ^^^ 1 = 0 ∨ o ^^^ 1 = 1) := by
  rcases h with rfl | rfl <;> decide
theorem bit_pcb {o : Int32} {c : Prop} {_ : Decidable c} (h : o = 0 ∨ o = 1) : 64 * o + (if c then 0 else 32) < 192 ∧ ¬ 128 ≤ 64 * o + (if c then (0 : Int32) else 32) := by
  by_cases hc : c
  · rw [if_pos hc]; rcases h with rfl | rfl <;> decide
  · rw [if_neg hc]; rcases h with rfl | rfl <;> decide
/-- I: a PIECE -/
theorem piece_ok {a b : rz_M} (h : ON a b) : ON (f_pc a) (g_nxc b) := by
  obtain ⟨h0, hW, hD, hB, hRp⟩ := h
  have hR := hW.2.2
  have e3 : a 3 = b 30 := hR.2 (3, 30) (by decide)
  have e29 : a 18 = b 29 := hR.2 (18, 29) (by decide)
  have e7 : a 1 7 = b 19 23 := vV hR (by decide)
  have e32 : a 17 1 = b 19 32 := vV hR (by decide)
  have e33 : a 17 2 = b 19 33 := vV hR (by decide)
  have e24 : a 1 8 = b 19 24 := vV hR (by decide)
  obtain ⟨aa, s, ha, hs, hsa, h26⟩ := hB.2.2.2.1
  obtain ⟨z, z1, z32, hz⟩ := hB.2.2.1
  rw [← pc_eq ha hs hz (by omega) (by omega) (by omega), ← nx_eq (e32 ▸ ha) (e33 ▸ hs) (e24 ▸ hz) (by omega) (by omega) (by omega)]
  obtain ⟨n, hn⟩ : ∃ n, n = min z (aa - s) := ⟨_, rfl⟩
  rw [← hn]
  have ex : v_pcb a n (aa - s) = 64 * b 19 23 + (if nI aa ≤ nI (s + n) then 0 else 32) := by
    unfold v_pcb
    rw [e7]
    congr 1
    by_cases q : aa - s ≤ n
    · rw [if_pos (nI_le q (by omega)), if_pos (nI_le (by omega) (by omega))]
    · rw [if_neg (nI_ge (by omega) (by omega)), if_neg (nI_ge (by omega) (by omega))]
  have hb7 : b 19 23 = 0 ∨ b 19 23 = 1 := by rw [← e7]; exact hB.2.1
  obtain ⟨x1, x2⟩ := bit_pcb (c := nI aa ≤ nI (s + n)) hb7
  obtain ⟨o1, o2⟩ := bit_out hB.2.1
  -- the reference's steps
  have eg : g_nx1 aa s n b = g_say1 (64 * b 19 23 + (if nI aa ≤ nI (s + n) then 0 else 32)) n (g_say0 (64 * b 19 23 + (if nI aa ≤ nI (s + n) then 0 else 32)) n (g_nx0 s n b)) := by
    unfold g_nx1 g_say
    rw [if_pos x1]
  have efr : fr (g_nx0 s n b 30) (64 * b 19 23 + (if nI aa ≤ nI (s + n) then 0 else 32)) n (fun k => g_nx0 s n b 30 (3 + k)) = fr (b 30) (64 * b 19 23 + (if nI aa ≤ nI (s + n) then 0 else 32)) n (fun k => b 29 (s + k)) := by
    have : g_nx0 s n b 30 = va_cpy (b 29) (b 30) s 3 n := by unfold g_nx0; rw [rz_up_k (by decide), rz_uf_eq]
    rw [this]
    refine frD (fun j hj => ?_) (fun k hk => ?_)
    · rw [pk_cpy_out (by omega)]
    · rw [pk_cpy_in (by omega) (by omega)]
      congr 1; omega
  have es0 : g_say0 (64 * b 19 23 + (if nI aa ≤ nI (s + n) then 0 else 32)) n (g_nx0 s n b) = rz_up (rz_uf (rz_up b 19 33 (nI (s + n))) 30 (fr (b 30) (64 * b 19 23 + (if nI aa ≤ nI (s + n) then 0 else 32)) n (fun k => b 29 (s + k)))) 19 34 (nI (n + 4)) := by
    unfold g_say0
    rw [efr]
    congr 1
    unfold g_nx0
    rw [rz_uf_up (by decide)]
    funext k
    by_cases hk : k = 30
    · subst hk; rw [rz_uf_eq, rz_uf_eq]
    · rw [rz_uf_ne hk, rz_uf_ne hk, rz_uf_ne hk]
  have hRs : RL zV (f_say (v_pcb a n (aa - s)) n (fun k => a 18 (s + k)) (rz_up a 17 2 (nI (s + n)))) (g_say0 (64 * b 19 23 + (if nI aa ≤ nI (s + n) then 0 else 32)) n (g_nx0 s n b)) := by
    rw [es0]
    unfold f_say
    refine RL_up okV (RL_uf okV (RL_up okV hR (k := 17) (j := 2) (k' := 19) (j' := 33) (by decide) rfl) (by decide) ?_) (by decide) rfl
    show fr (a 3) (v_pcb a n (aa - s)) n (fun k => a 18 (s + k)) = _
    rw [e3, ex, e29]
  have h23 : g_nx1 aa s n b 19 23 = b 19 23 := by
    rw [eg, es0]
    rfl
  have hR7 : RL zV (f_piece0 s n (aa - s) a) (g_nx aa s n b) := by
    unfold f_piece0 g_nx
    rw [h23, eg]
    refine RL_up okV ?_ (by decide) (by rw [← e7]; exact o1)
    unfold g_say1
    exact RL_fr okV (RL_r okV (RL_r okV hRs (by decide) (by decide)) (by decide) (by decide)) (by decide) (by decide)
  have h16 : g_nx aa s n b 19 16 = b 19 16 := by
    unfold g_nx
    rw [eg, es0]
    rfl
  have hN : NOTE (f_piece s n (aa - s) a) (g_nx aa s n b) := by
    unfold NOTE NT
    rw [h16]
    exact hW.2.1
  unfold f_piece at hN ⊢
  refine ⟨h0, ⟨?_, hN, ?_⟩, DC_eq (a := a) rfl rfl rfl hD, ?_, ?_⟩
  · unfold f_piece0 f_say
    exact IPa_up (k := 1) (by decide) (IPa_uf (k := 4) (by decide) (IPa_up (k := 1) (by decide) (IPa_up (k := 1) (by decide) (IPa_uf (k := 3) (by decide) (IPa_up (k := 17) (by decide) hW.1)))))
  · exact RL_l okV (RL_fl okV hR7 (by decide) (by decide)) (by decide) (by decide)
  · exact ⟨hB.1, o2, ⟨z, z1, z32, hz⟩, ⟨aa, s + n, ha, rfl, by omega, h26⟩, hB.2.2.2.2.1, hB.2.2.2.2.2.1, n + 4, by omega, rfl⟩
  · refine Or.inr ⟨n + 4, by omega, by omega, rfl, ?_, ?_, ?_⟩
    · unfold g_nx; rw [eg]; rfl
    · unfold g_nx; rw [eg]
      show (if 128 ≤ 64 * b 19 23 + (if nI aa ≤ nI (s + n) then (0 : Int32) else 32) then (0 : Int32) else 1) = 1
      exact if_neg x2
    · intro j hj
      have a4 : rz_up (rz_uf (f_piece0 s n (aa - s) a) 4 (va_cpy (f_piece0 s n (aa - s) a 3) (a 4) 0 0 (n + 4))) 1 5 (nI (n + 4)) 4 = va_cpy (f_piece0 s n (aa - s) a 3) (a 4) 0 0 (n + 4) := by
        rw [rz_up_k (by decide), rz_uf_eq]
      have b31 : g_nx aa s n b 31 = va_cpy (g_say0 (64 * b 19 23 + (if nI aa ≤ nI (s + n) then 0 else 32)) n (g_nx0 s n b) 30) (g_say0 (64 * b 19 23 + (if nI aa ≤ nI (s + n) then 0 else 32)) n (g_nx0 s n b) 31) 0 0 (n + 4) := by
        unfold g_nx; rw [eg, rz_up_k (by decide)]; unfold g_say1; rw [rz_uf_eq]
      rw [a4, b31, pk_cpy_in (by omega) (by omega), pk_cpy_in (by omega) (by omega)]
      have e30 : f_piece0 s n (aa - s) a 3 = g_say0 (64 * b 19 23 + (if nI aa ≤ nI (s + n) then 0 else 32)) n (g_nx0 s n b) 30 := by
        have := hRs.2 (3, 30) (by decide)
        rw [← this]
        unfold f_piece0
        rw [rz_up_k (by decide)]
      rw [e30]
/-- the latest piece once more -/
theorem again_ok {a b : rz_M} (h : ON a b) {r : Nat} (h4 : 4 ≤ r) (h36 : r ≤ 36) (hj : ∀ j, j < r → a 4 j = b 31 j) : ON (f_again r a) (g_ag r b) := by
  obtain ⟨h0, hW, hD, hB, hRp⟩ := h
  have hR := hW.2.2
  have e3 : a 3 = b 30 := hR.2 (3, 30) (by decide)
  unfold f_again g_ag
  refine ⟨h0, ⟨?_, hW.2.1, ?_⟩, DC_eq (a := a) rfl rfl rfl hD, ?_, hRp⟩
  · exact IPa_up (k := 1) (by decide) (IPa_uf (k := 3) (by decide) hW.1)
  · refine RL_up okV (RL_uf okV hR (by decide) ?_) (by decide) rfl
    funext j
    by_cases q : j < r
    · rw [pk_cpy_in (by omega) (by omega), pk_cpy_in (by omega) (by omega)]
      exact hj _ (by omega)
    · rw [pk_cpy_out (by omega), pk_cpy_out (by omega), e3]
  · exact ⟨hB.1, hB.2.1, hB.2.2.1, hB.2.2.2.1, hB.2.2.2.2.1, hB.2.2.2.2.2.1, r, h36, rfl⟩
