/-! OCTETS, one by one -/
def AV (a : rz_M) : Prop := ∃ m : Nat, m < 36 ∧ a 1 1 = nI m ∧ (3 ≤ m → ∃ l : Nat, l ≤ 32 ∧ a 2 2 = nI l ∧ m < l + 4)
def BON (a b : rz_M) : Prop := ON a b ∧ a 1 1 = b 19 30 ∧ AV a
def BR (a b : rz_M) : Prop := BON a b ∨ (OFF a b ∧ a 1 1 = 0)
theorem tk_mem {x : Int32} {a : rz_M} {m : Nat} (h : a 1 1 = nI m) (hm : m < 36) : f_tk x a = rz_up (rz_up a 1 1 (nI (m + 1))) 2 m x := by
  unfold f_tk
  rw [nc h (by omega)]
theorem b1_mem {x : Int32} {b : rz_M} {m : Nat} (h : b 19 30 = nI m) (hm : m < 36) : g_b1 x b = rz_up (rz_up b 27 m x) 19 30 (nI (m + 1)) := by
  unfold g_b1
  rw [nc h (by omega), h, nI_succ]
theorem ON_tk {a b : rz_M} (h : ON a b) {x y z : Int32} (hx : OV x) (m : Nat) : ON (rz_up (rz_up a 1 1 y) 2 m x) (rz_up (rz_up b 27 m x) 19 30 z) := by
  obtain ⟨h0, hW, hD, hB, hRp⟩ := h
  refine ⟨h0, ⟨IPa_up (k := 2) (by decide) (IPa_up (k := 1) (by decide) hW.1), hW.2.1, ?_⟩, DC_eq (a := a) rfl rfl rfl hD, ?_, hRp⟩
  · exact RL_r okV (RL_ua okV (RL_l okV hW.2.2 (by decide) (by decide)) (by decide) rfl rfl) (by decide) (by decide)
  · refine ⟨hB.1, hB.2.1, hB.2.2.1, hB.2.2.2.1, hB.2.2.2.2.1, ?_, hB.2.2.2.2.2.2⟩
    exact OCT_up (μ := rz_up a 1 1 y) (k := 2) hB.2.2.2.2.2.1 hx m
theorem ON_30 {a b : rz_M} {z : Int32} (h : ON a b) : ON a (rz_up b 19 30 z) := by
  obtain ⟨h0, hW, hD, hB, hRp⟩ := h
  exact ⟨h0, ⟨hW.1, hW.2.1, RL_r okV hW.2.2 (by decide) (by decide)⟩, hD, hB, hRp⟩
/-- the card's length OCTET behind the m-th OCTET -/
theorem len_at {a : rz_M} {x y : Int32} {m : Nat} : rz_up (rz_up a 1 1 y) 2 m x 2 2 = if m = 2 then x else a 2 2 := by
  rw [rd_up]
  by_cases h : m = 2
  · rw [if_pos ⟨rfl, h.symm⟩, if_pos h]
  · rw [if_neg (fun q => h q.2.symm), if_neg h]; rfl
theorem wh_iff {a b : rz_M} {x : Int32} (h : BON a b) (hx : OV x) {m : Nat} (hm : a 1 1 = nI m) (hm36 : m < 36) :
    (p_wh (f_tk x a) ↔ p_go x b) ∧ (p_go x b → (p_tm x b ↔ ¬ f_tk x a 2 2 ≤ 32)) ∧ (¬ p_go x b → m + 1 < 36 ∧ (3 ≤ m + 1 → ∃ l : Nat, l ≤ 32 ∧ f_tk x a 2 2 = nI l ∧ m + 1 < l + 4)) ∧ (p_go x b → ¬ p_tm x b → ∃ l : Nat, l ≤ 32 ∧ f_tk x a 2 2 = nI l) := by
  obtain ⟨hON, e30, m', hm', hmm, hl⟩ := h
  have : m' = m := by
    rw [hm] at hmm
    exact ((nI_eq (by omega) (by omega)).mp hmm).symm
  subst this
  have hb : b 19 30 = nI m' := e30 ▸ hm
  have e27 : f_tk x a 2 = g_b1 x b 27 := by
    rw [tk_mem hm hm', b1_mem hb hm']
    have e2 : a 2 = b 27 := hON.2.1.2.2.2 (2, 27) (by decide)
    show upd (a 2) m' x = upd (b 27) m' x
    rw [e2]
  have f11 : f_tk x a 1 1 = nI (m' + 1) := by rw [tk_mem hm hm']; rfl
  have b30 : b 19 30 + 1 = nI (m' + 1) := by rw [hb, nI_succ]
  have f22 : f_tk x a 2 2 = if m' = 2 then x else a 2 2 := by rw [tk_mem hm hm']; exact len_at
  obtain ⟨o, ho255, ho⟩ := hx
  unfold p_wh p_go p_tm
  rw [← e27, f11, b30]
  rcases Nat.lt_or_ge m' 2 with q | q
  · have c3 : nI (m' + 1) < 3 := nI_lt (b := 3) (by omega) (by omega)
    have c4 : nI (m' + 1) < 4 := nI_lt (b := 4) (by omega) (by omega)
    have c5 : ¬ nI (m' + 1) = 3 := by
      intro w
      have := (nI_eq (b := 3) (by omega) (by omega)).mp w
      omega
    have ng : ¬ ((nI (m' + 1) = 3 ∧ ¬ x ≤ 32) ∨ (¬ nI (m' + 1) < 4 ∧ f_tk x a 2 2 + 4 ≤ nI (m' + 1))) := by
      rintro (w | w)
      · exact c5 w.1
      · exact w.1 c4
    exact ⟨⟨fun w => absurd c3 w.1, fun w => absurd w ng⟩, fun w => absurd w ng, fun _ => ⟨by omega, fun w => by omega⟩, fun w => absurd w ng⟩
  · rcases Nat.lt_or_ge m' 3 with q3 | q3
    · have : m' = 2 := by omega
      subst this
      rw [if_pos rfl] at f22
      rw [f22]
      have c4 : nI (2 + 1) < 4 := by decide
      have nx : ¬ nI (2 + 1) = 3 + x + 1 := by
        rw [ho, show (3 : Int32) = nI 3 from rfl, nI_add, ← nI_succ]
        intro w
        have := (nI_eq (by omega) (by omega)).mp w
        omega
      refine ⟨⟨fun w => Or.inl ⟨rfl, w.2.resolve_right nx⟩, fun w => ?_⟩, fun w => ⟨fun w2 => w2.2, fun w2 => ⟨rfl, w2⟩⟩, fun w => ⟨by omega, fun _ => ?_⟩, fun w nt => ?_⟩
      · rcases w with w | w
        · exact ⟨by decide, Or.inl w.2⟩
        · exact absurd c4 w.1
      · have hx32 : x ≤ 32 := by
          by_cases w2 : x ≤ 32
          · exact w2
          · exact absurd (Or.inl ⟨rfl, w2⟩) w
        rw [ho] at hx32 ⊢
        have := (nI_leI (b := 32) (by omega) (by omega)).mp hx32
        exact ⟨o, this, rfl, by omega⟩
      · rcases w with w | w
        · exact absurd w nt
        · exact absurd c4 w.1
    · obtain ⟨l, hl32, el, hml⟩ := hl q3
      rw [if_neg (show ¬ m' = 2 by omega)] at f22
      rw [f22, el]
      have c5 : ¬ nI (m' + 1) = 3 := by
        intro w
        have := (nI_eq (b := 3) (by omega) (by omega)).mp w
        omega
      have l32 : nI l ≤ 32 := nI_le (b := 32) hl32 (by omega)
      have e4 : nI l + 4 = nI (l + 4) := by rw [show (4 : Int32) = nI 4 from rfl, nI_add]
      have e5 : 3 + nI l + 1 = nI (l + 4) := by
        rw [show (3 : Int32) = nI 3 from rfl, nI_add, ← nI_succ]; congr 1; omega
      rw [e4, e5]
      refine ⟨⟨fun w => Or.inr ⟨nI_nlt (a := m' + 1) (b := 4) (by omega) (by omega), ?_⟩, fun w => ⟨nI_nlt (a := m' + 1) (b := 3) (by omega) (by omega), Or.inr ?_⟩⟩, fun w => ⟨fun w2 => absurd w2.1 c5, fun w2 => absurd l32 w2⟩, fun w => ?_, fun w nt => ⟨l, hl32, rfl⟩⟩
      · rcases w.2 with w2 | w2
        · exact absurd l32 w2
        · rw [w2]; exact Int32.le_refl _
      · rcases w with w2 | w2
        · exact absurd w2.1 c5
        · have := (nI_leI (by omega) (by omega)).mp w2.2
          congr 1; omega
      · have hne : m' + 1 < l + 4 := by
          rcases Nat.lt_or_ge (m' + 1) (l + 4) with r | r
          · exact r
          · exact absurd (Or.inr ⟨nI_nlt (a := m' + 1) (b := 4) (by omega) (by omega), nI_le r (by omega)⟩) w
        exact ⟨by omega, fun _ => ⟨l, hl32, rfl, hne⟩⟩
/-- the last OCTET of a BLOCK: both answer the same -/
theorem wh_ok {a b : rz_M} {x : Int32} (h : BON a b) (hx : OV x) {m : Nat} (hm : a 1 1 = nI m) (hm36 : m < 36) (hgo : p_go x b) : BR (f_ans (m + 1) (f_tk x a)) (g_aft x b) := by
  obtain ⟨-, w2, -, w4⟩ := wh_iff h hx hm hm36
  have w2 := w2 hgo
  have w4 := w4 hgo
  have hb : b 19 30 = nI m := h.2.1 ▸ hm
  have hON1 : ON (f_tk x a) (g_b1 x b) := by
    rw [tk_mem hm hm36, b1_mem hb hm36]
    exact ON_tk h.1 hx m
  have hON2 : ON (f_tk x a) (g_b2 x b) := ON_30 hON1
  have e2 : f_tk x a 2 = g_b1 x b 27 := hON1.2.1.2.2.2 (2, 27) (by decide)
  have z30 : g_aft x b 19 30 = 0 := by
    rw [KB_aft.2]
    unfold g_b2
    exact rz_up_at
  have key : ONF (f_ans (m + 1) (f_tk x a)) (g_aft x b) := by
    unfold f_ans g_aft v_wrong
    rw [nc hb (by omega), ← e2]
    by_cases t : f_tk x a 2 2 ≤ 32
    · have nt : ¬ p_tm x b := fun q => (w2.mp q) t
      rw [if_neg (show ¬ ¬ f_tk x a 2 2 ≤ 32 from fun q => q t)]
      by_cases s : xs (f_tk x a 2) (m + 1) = 0
      · rw [if_neg (show ¬ ¬ xs (f_tk x a 2) (m + 1) = 0 from fun q => q s), if_neg (show ¬ (¬ p_tm x b ∧ ¬ xs (f_tk x a 2) (m + 1) = 0) from fun q => q.2 s)]
        by_cases z : f_tk x a 2 0 = 0
        · rw [if_neg (show ¬ ¬ f_tk x a 2 0 = 0 from fun q => q z), if_neg (show ¬ ¬ (0 : Int32) = 0 from fun q => q rfl), if_neg (show ¬ (p_tm x b ∨ ¬ f_tk x a 2 0 = 0) from fun q => q.elim nt (fun w => w z))]
          obtain ⟨l, hl32, el⟩ := w4 nt
          obtain ⟨p, hp, ep⟩ := hON2.2.2.2.1.2.2.2.2.2.1 1
          rw [nc ep (by omega), nc el (by omega)]
          exact dsp_ok hON2 ep (by omega) el hl32
        · rw [if_pos z, if_pos (show ¬ (2 : Int32) = 0 by decide), if_pos (show p_tm x b ∨ ¬ f_tk x a 2 0 = 0 from Or.inr z)]
          exact an1_e hON2 (Or.inr rfl)
      · rw [if_pos s, if_pos (show ¬ (1 : Int32) = 0 by decide), if_pos (show ¬ p_tm x b ∧ ¬ xs (f_tk x a 2) (m + 1) = 0 from ⟨nt, s⟩)]
        exact an1_e hON2 (Or.inl rfl)
    · have tm := w2.mpr t
      rw [if_pos t, if_pos (show ¬ (2 : Int32) = 0 by decide), if_neg (show ¬ (¬ p_tm x b ∧ ¬ xs (f_tk x a 2) (m + 1) = 0) from fun q => q.1 tm), if_pos (show p_tm x b ∨ ¬ f_tk x a 2 0 = 0 from Or.inl tm)]
      exact an1_e hON2 (Or.inr rfl)
  have z11 : f_ans (m + 1) (f_tk x a) 1 1 = 0 := by
    unfold f_ans f_an1
    split
    · exact rz_up_at
    · exact rz_up_at
  rcases key with q | q
  · exact Or.inl ⟨q, by rw [z11, z30], 0, by omega, z11, fun w => by omega⟩
  · exact Or.inr ⟨q, z11⟩
/-- an OCTET that ends no BLOCK -/
theorem nw_ok {a b : rz_M} {x : Int32} (h : BON a b) (hx : OV x) {m : Nat} (hm : a 1 1 = nI m) (hm36 : m < 36) (hgo : ¬ p_go x b) : BON (f_tk x a) (g_b1 x b) := by
  obtain ⟨-, -, w3, -⟩ := wh_iff h hx hm hm36
  obtain ⟨w5, w6⟩ := w3 hgo
  have hb : b 19 30 = nI m := h.2.1 ▸ hm
  refine ⟨?_, ?_, m + 1, w5, ?_, w6⟩
  · rw [tk_mem hm hm36, b1_mem hb hm36]
    exact ON_tk h.1 hx m
  · rw [tk_mem hm hm36, b1_mem hb hm36]; rfl
  · rw [tk_mem hm hm36]; rfl
theorem IT1_of {a b : rz_M} {x : Int32} (h : BON a b) (hx : OV x) : IT1 x b := by
  obtain ⟨hON, e30, m, hm36, hm, -⟩ := id h
  have hb : b 19 30 = nI m := e30 ▸ hm
  have hON1 : ON (f_tk x a) (g_b1 x b) := by
    rw [tk_mem hm hm36, b1_mem hb hm36]
    exact ON_tk hON hx m
  have e2 : f_tk x a 2 = g_b1 x b 27 := hON1.2.1.2.2.2 (2, 27) (by decide)
  refine ⟨⟨m, hm36, hb⟩, O27_of hON1, fun hgo nt => ?_⟩
  obtain ⟨-, -, -, w4⟩ := wh_iff h hx hm hm36
  obtain ⟨l, hl32, el⟩ := w4 hgo nt
  have hON2 : ON (f_tk x a) (g_b2 x b) := ON_30 hON1
  rw [← e2]
  refine ⟨⟨l, hl32, el⟩, ?_⟩
  rw [nc el (by omega)]
  exact WP_of hON2 el hl32
theorem oct_ok {a b : rz_M} {x : Int32} (h : BON a b) (hx : OV x) : IO1 x a ∧ IT1 x b ∧ BR (f_oct x a) (g_take x b) := by
  obtain ⟨hON, e30, m, hm36, hm, -⟩ := id h
  have hb : b 19 30 = nI m := e30 ▸ hm
  obtain ⟨w1, -, -, -⟩ := wh_iff h hx hm hm36
  have hON1 : ON (f_tk x a) (g_b1 x b) := by
    rw [tk_mem hm hm36, b1_mem hb hm36]
    exact ON_tk hON hx m
  refine ⟨⟨⟨m, hm36, hm⟩, fun _ => IA_of hON1⟩, IT1_of h hx, ?_⟩
  unfold f_oct
  rw [g_take_eq, nc hm (by omega)]
  exact R2 BR w1 (fun q => wh_ok h hx hm hm36 (w1.mp q)) (fun q => Or.inl (nw_ok h hx hm hm36 (fun w => q (w1.mpr w))))
theorem oct_eq (w : Int64) (k : Int32) : v_oct w k = w_oct w k := by
  unfold v_oct w_oct
  rw [Int64.toInt32_and]
  rfl
theorem OV_oct (w : Int64) (k : Int32) : OV (v_oct w k) := by
  unfold v_oct
  obtain ⟨j, hj, e⟩ := pk_andE ((w.toUInt64 >>> ((8 * k).toInt64.toUInt64 &&& Int64.toUInt64 63)).toInt64).toInt32 (m := 255) 8 (by decide)
  exact ⟨j, by omega, e⟩
theorem fd_ok (w : Int64) : ∀ (d i : Nat) (a b : rz_M), BR a b → OK_fd w d i a ∧ OKT_fd w d i b ∧ BR (f_fd w d i a) (g_fd w d i b)
  | 0, i, a, b, h => ⟨trivial, trivial, h⟩
  | d + 1, i, a, b, h => by
    unfold OK_fd OKT_fd f_fd g_fd
    rcases h with h | h
    · have h0 : a 0 3 = 1 := h.1.1
      have e17 : a 0 3 = b 19 17 := vV h.1.2.1.2.2 (by decide)
      have n1 : ¬ a 0 3 = 0 := by rw [h0]; decide
      have n2 : ¬ b 19 17 = 0 := by rw [← e17]; exact n1
      obtain ⟨o1, o2, o3⟩ := oct_ok h (OV_oct w (nI i))
      rw [oct_eq] at o2 o3
      rw [if_neg n1, if_neg n2, oct_eq]
      obtain ⟨r1, r2, r3⟩ := fd_ok w d (i + 1) _ _ o3
      rw [oct_eq] at o1
      exact ⟨Or.inr ⟨o1, r1⟩, Or.inr ⟨o2, r2⟩, r3⟩
    · rw [if_pos h.1.1, if_pos h.1.2.1]
      exact ⟨Or.inl h.1.1, Or.inl h.1.2.1, Or.inr h⟩
