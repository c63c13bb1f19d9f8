/-! COMMANDS: class and reference do the same -/
theorem nI_or (a b : Nat) : nI a ||| nI b = nI (a ||| b) := by
  apply Int32.toBitVec_inj.1
  show BitVec.ofNat 32 a ||| BitVec.ofNat 32 b = BitVec.ofNat 32 (a ||| b)
  apply BitVec.eq_of_getLsbD_eq
  intro i hi
  simp [BitVec.getLsbD_ofNat, hi]
theorem sh8 {a b : Nat} (ha : a ≤ 255) (hb : b ≤ 255) : (nI a <<< ((8 : Int32) &&& 31)) ||| nI b = 256 * nI a + nI b := by
  have h1 : nI a <<< ((8 : Int32) &&& 31) = nI (a * 2 ^ 8) := pk_shlN _ 8 (by decide) (by omega)
  rw [h1, nI_or, show (256 : Int32) = nI 256 from rfl, pk_mul, nI_add]
  congr 1
  have := Nat.shiftLeft_add_eq_or_of_lt (i := 8) (b := b) (by omega) a
  rw [Nat.shiftLeft_eq] at this
  omega
theorem R2 {α β : Type} (Q : α → β → Prop) {c d : Prop} {_ : Decidable c} {_ : Decidable d} {x y : α} {u v : β} (hcd : c ↔ d) (ht : c → Q x u) (he : ¬ c → Q y v) : Q (ite c x y) (ite d u v) := by
  by_cases h : c
  · rw [if_pos h, if_pos (hcd.mp h)]; exact ht h
  · rw [if_neg h, if_neg (fun q => h (hcd.mpr q))]; exact he h
theorem zP_53 : ∀ p ∈ zP, p.1 ≠ (5, 3) := by decide
theorem zA_5 : ∀ q ∈ zA, q.1 ≠ 5 := by decide
def DC (a : rz_M) : Prop := ∃ c : Nat, a 7 6 = nI c ∧ c ≤ 8 ∧ (∃ d : Nat, d < c ∧ a 5 4 = nI d) ∧ (a 5 5 = -1 ∨ ∃ f : Nat, f < c ∧ a 5 5 = nI f)
theorem DC_eq {a a' : rz_M} (h7 : a' 7 6 = a 7 6) (h4 : a' 5 4 = a 5 4) (h5 : a' 5 5 = a 5 5) (h : DC a) : DC a' := by
  unfold DC
  rw [h7, h4, h5]
  exact h
def EX (a : rz_M) (x : Int32) : Prop := (a 15 4 = -1 ∧ x < 0) ∨ (∃ e : Nat, e ≤ 255 ∧ x = nI e ∧ a 15 4 = g_exn x)
def RES (r q : Int32 × rz_M) : Prop := (¬ r.1 = -1 ∧ r.1 = q.1 ∧ WI zV r.2 q.2 ∧ DC r.2) ∨ (r.1 = -1 ∧ TI r.2 q.2)
theorem vV {a b : rz_M} (h : RL zV a b) {k j k' j' : Nat} (hm : ((k, j), (k', j')) ∈ zV) : a k j = b k' j' := h.1 _ hm
theorem okV : okL zV := Or.inr rfl
theorem RES_same {a b : rz_M} {s : Int32} (h : WI zV a b) (hD : DC a) (hs : ¬ s = -1) : RES (s, a) (s, b) := Or.inl ⟨hs, rfl, h, hD⟩
theorem EX_iff {a : rz_M} {x : Int32} (h : EX a x) : a 15 4 = -1 ↔ x < 0 := by
  rcases h with ⟨h1, h2⟩ | ⟨e, he, hx, h1⟩
  · exact ⟨fun _ => h2, fun _ => h1⟩
  · have hx0 : ¬ x < 0 := by rw [hx]; exact nI_pos (by omega)
    refine ⟨fun q => ?_, fun q => absurd q hx0⟩
    rw [h1] at q
    unfold g_exn at q
    split at q
    · rw [hx] at q
      have : (nI e).toInt = (-1 : Int32).toInt := by rw [q]
      rw [nI_toInt (by omega)] at this
      have e1 : (-1 : Int32).toInt = -1 := rfl
      omega
    · exact absurd q (by decide)
theorem sec_eq {a b : rz_M} (h : RL zV a b) : v_sec a = g_sec b := by
  unfold v_sec g_sec
  rw [h.2 (16, 28) (by decide)]
theorem cmp_ok {a b : rz_M} (h : WI zV a b) (hD : DC a) (ht : ¬ a 6 7 = 0) : RES (f_cmp (v_sec a) a) (g_t2 b) := by
  have hR := h.2.2
  have e10 : a 6 10 = b 19 12 := vV hR (by decide)
  have e7 : a 6 7 = b 19 8 := vV hR (by decide)
  have e6 : a 6 6 = b 19 7 := vV hR (by decide)
  have es := sec_eq hR
  obtain ⟨t, ht3, et⟩ := h.2.1.2
  have t1 : 1 ≤ t := by
    rcases Nat.eq_zero_or_pos t with q | q
    · rw [q] at et; exact absurd et ht
    · exact q
  have et1 : a 6 7 - 1 = nI (t - 1) := by rw [et, show t = (t - 1) + 1 by omega, nI_pred]; congr 1
  unfold f_cmp g_t2
  by_cases h0 : a 6 10 = 0
  · rw [if_neg (fun q => q h0), if_neg (fun q => q (by rw [← e10]; exact h0))]
    exact Or.inr ⟨rfl, w_torn okV h h0⟩
  · rw [if_pos h0, if_pos (show ¬ b 19 12 = 0 by rw [← e10]; exact h0), es, e6]
    have hw := w_ok okV h h0
    have e8 : f_w a 6 7 = a 6 7 := f_w_6 (by decide) (by decide) (by decide)
    by_cases hs : g_sec b = b 19 7
    · rw [if_pos hs, if_pos hs]
      -- the second writing: the relation but for 'opened'
      have hN : NOTE (f_cmp1 a) (g_t1 b) := by
        unfold f_cmp1 g_t1
        refine ⟨?_, t - 1, by omega, ?_⟩
        · exact hw.2.1.1
        · rw [rz_up_at]; exact et1
      have hI : IPa (f_cmp1 a) := by
        unfold f_cmp1
        exact IPa_up (k := 6) (by decide) hw.1
      have hR1 : RL zV (rz_up (f_cmp1 a) 5 3 0) (g_t1 b) := by
        unfold f_cmp1 g_t1
        exact RL_up okV (RL_up okV hw.2.2 (by decide) (by rw [e7])) (by decide) rfl
      have hW1 : WI zV (rz_up (f_cmp1 a) 5 3 0) (g_t1 b) := by
        refine ⟨IPa_up (k := 5) (by decide) hI, ?_, hR1⟩
        exact hN
      have e10' : f_cmp1 a 6 10 = g_t1 b 19 12 := vV hR1 (k := 6) (j := 10) (by decide)
      have hcomm : f_w (rz_up (f_cmp1 a) 5 3 0) = rz_up (f_w (f_cmp1 a)) 5 3 0 := by
        unfold f_w
        rw [rz_up_k (k' := 6) (by decide)]
        split
        · split
          · rw [rz_up_comm (k := 5) (k2 := 6) (Or.inl (by decide))]
          · rw [rz_up_comm (k := 5) (k2 := 6) (Or.inl (by decide)), rz_up_comm (k := 5) (k2 := 6) (Or.inl (by decide))]
        · rw [rz_up_comm (k := 5) (k2 := 6) (Or.inl (by decide)), rz_up_comm (k := 5) (k2 := 6) (Or.inl (by decide))]
      by_cases h1 : f_cmp1 a 6 10 = 0
      · rw [if_neg (fun q => q h1), if_neg (fun q => q (by rw [← e10']; exact h1))]
        have := w_torn okV hW1 h1
        rw [hcomm] at this
        refine Or.inr ⟨rfl, ⟨⟨?_, ?_, ?_⟩, this.2⟩⟩
        · exact f_w_IPa hI
        · exact this.1.2.1
        · have hr := this.1.2.2
          refine ⟨fun p hp => ?_, fun q hq => ?_⟩
          · have := hr.1 p hp
            rw [rd_up, if_neg (fun z => zP_53 p hp (Prod.ext z.1 z.2))] at this
            exact this
          · have := hr.2 q hq
            rw [rz_up_k (zA_5 q hq)] at this
            exact this
      · rw [if_pos h1, if_pos (show ¬ g_t1 b 19 12 = 0 by rw [← e10']; exact h1)]
        have := w_ok okV hW1 h1
        rw [hcomm] at this
        refine Or.inl ⟨(by decide : ¬ (36864 : Int32) = -1), rfl, ⟨?_, ?_, ?_⟩, ?_⟩
        · exact IPa_up (k := 5) (by decide) (IPa_up (k := 6) (by decide) (f_w_IPa hI))
        · exact ⟨this.2.1.1, 3, by omega, rfl⟩
        · have h2 := RL_up okV (RL_up okV this.2.2 (k := 6) (j := 7) (k' := 19) (j' := 8) (x := 3) (y := 3) (by decide) rfl) (k := 5) (j := 3) (k' := 19) (j' := 18) (x := 1) (y := 1) (by decide) rfl
          rw [rz_up_comm (k := 5) (k2 := 6) (Or.inl (by decide)), rz_up_same] at h2
          exact h2
        · refine DC_eq (a := a) ?_ ?_ ?_ hD
          · show f_w (f_cmp1 a) 7 6 = a 7 6
            rw [f_w_ne (by decide)]
            unfold f_cmp1
            rw [rz_up_k (by decide), f_w_ne (by decide)]
          · show f_w (f_cmp1 a) 5 4 = a 5 4
            rw [f_w_ne (by decide)]
            unfold f_cmp1
            rw [rz_up_k (by decide), f_w_ne (by decide)]
          · show f_w (f_cmp1 a) 5 5 = a 5 5
            rw [f_w_ne (by decide)]
            unfold f_cmp1
            rw [rz_up_k (by decide), f_w_ne (by decide)]
    · rw [if_neg hs, if_neg hs, ← e7]
      refine Or.inl ⟨?_, rfl, ⟨?_, ?_, ?_⟩, ?_⟩
      · show ¬ 25536 + (a 6 7 - 1) = -1
        rw [et1, show (25536 : Int32) = nI 25536 from rfl, nI_add]
        intro q
        have : (nI (25536 + (t - 1))).toInt = (-1 : Int32).toInt := by rw [q]
        rw [nI_toInt (by omega)] at this
        have e1 : (-1 : Int32).toInt = -1 := rfl
        omega
      · unfold f_cmp1
        exact IPa_up (k := 5) (by decide) (IPa_up (k := 6) (by decide) hw.1)
      · refine ⟨hw.2.1.1, t - 1, by omega, ?_⟩
        show f_cmp1 a 6 7 = _
        unfold f_cmp1
        rw [rz_up_at]; exact et1
      · unfold f_cmp1 g_t1
        exact RL_up okV (RL_up okV hw.2.2 (by decide) (by rw [e7])) (by decide) rfl
      · refine DC_eq (a := a) ?_ ?_ ?_ hD
        · show f_cmp1 a 7 6 = a 7 6
          unfold f_cmp1
          rw [rz_up_k (by decide), f_w_ne (by decide)]
        · show f_cmp1 a 5 4 = a 5 4
          unfold f_cmp1
          rw [rz_up_k (by decide), f_w_ne (by decide)]
        · show f_cmp1 a 5 5 = a 5 5
          unfold f_cmp1
          rw [rz_up_k (by decide), f_w_ne (by decide)]
theorem ne_t {t : Nat} (h : t ≤ 3) : ¬ 25536 + nI t = -1 := by
  rw [show (25536 : Int32) = nI 25536 from rfl, nI_add]
  intro q
  have : (nI (25536 + t)).toInt = (-1 : Int32).toInt := by rw [q]
  rw [nI_toInt (by omega)] at this
  have e1 : (-1 : Int32).toInt = -1 := rfl
  omega
theorem tell_ok {a b : rz_M} {d x : Int32} (h : WI zV a b) (hD : DC a) (hd : a 15 3 = d) (hx : EX a x) : RES (f_tell a) (g_tell (b 28 2) (b 28 3) d x b) := by
  have hR := h.2.2
  have e16 : a 16 = b 28 := hR.2 (16, 28) (by decide)
  have e5 : a 5 3 = b 19 18 := vV hR (by decide)
  have e7 : a 6 7 = b 19 8 := vV hR (by decide)
  have hxi := EX_iff hx
  subst hd
  unfold f_tell g_tell
  rw [← e16, ← e5, ← e7]
  have S : ∀ {s : Int32}, ¬ s = -1 → RES (s, a) (s, b) := fun hs => RES_same h hD hs
  refine R2 RES Iff.rfl (fun _ => S (by decide)) (fun _ => R2 RES Iff.rfl (fun _ => R2 RES Iff.rfl (fun _ => S (by decide)) (fun _ => R2 RES hxi (fun _ => R2 RES Iff.rfl (fun _ => S (by decide)) (fun _ => R2 RES Iff.rfl (fun h6 => R2 RES Iff.rfl (fun _ => S ?_) (fun _ => cmp_ok h hD h6)) (fun _ => S (by decide)))) (fun _ => S (by decide)))) (fun _ => S (by decide)))
  obtain ⟨t, ht3, et⟩ := h.2.1.2
  rw [et]
  exact ne_t ht3
theorem renew_ok {a b : rz_M} {d x : Int32} (h : WI zV a b) (hD : DC a) (hd : a 15 3 = d) (hx : EX a x) : RES (f_renew a) (g_renew (b 28 2) (b 28 3) d x b) := by
  have hR := h.2.2
  have e16 : a 16 = b 28 := hR.2 (16, 28) (by decide)
  have e5 : a 5 3 = b 19 18 := vV hR (by decide)
  have e10 : a 6 10 = b 19 12 := vV hR (by decide)
  have hxi := EX_iff hx
  subst hd
  unfold f_renew g_renew
  rw [← e16, ← e5, ← e10]
  have S : ∀ {s : Int32}, ¬ s = -1 → RES (s, a) (s, b) := fun hs => RES_same h hD hs
  refine R2 RES Iff.rfl (fun _ => S (by decide)) (fun _ => R2 RES Iff.rfl (fun _ => R2 RES Iff.rfl (fun _ => S (by decide)) (fun _ => R2 RES hxi (fun _ => R2 RES Iff.rfl (fun _ => R2 RES Iff.rfl (fun h6 => ?_) (fun h6 => ?_)) (fun _ => S (by decide))) (fun _ => S (by decide)))) (fun _ => S (by decide)))
  · have hw := w_ok okV h h6
    refine Or.inl ⟨(by decide : ¬ (36864 : Int32) = -1), rfl, ⟨IPa_up (k := 6) (by decide) hw.1, hw.2.1, RL_up okV hw.2.2 (k := 6) (j := 6) (k' := 19) (j' := 7) (by decide) (sec_eq hR)⟩, ?_⟩
    refine DC_eq (a := a) ?_ ?_ ?_ hD
    · show f_w a 7 6 = a 7 6
      rw [f_w_ne (by decide)]
    · show f_w a 5 4 = a 5 4
      rw [f_w_ne (by decide)]
    · show f_w a 5 5 = a 5 5
      rw [f_w_ne (by decide)]
  · exact Or.inr ⟨rfl, w_torn okV h (Decidable.not_not.mp h6)⟩
theorem plc_eq {a b : rz_M} (hR : RL zV a b) (ho : OCT (a 16)) : v_plc a = v_pl b ∧ ∃ p : Nat, p ≤ 65535 ∧ v_plc a = nI p := by
  obtain ⟨x, hx, ex⟩ := ho 2
  obtain ⟨y, hy, ey⟩ := ho 3
  have e16 : a 16 = b 28 := hR.2 (16, 28) (by decide)
  have e1 : v_plc a = 256 * nI x + nI y := by unfold v_plc; rw [ex, ey]; exact sh8 hx hy
  refine ⟨?_, 256 * x + y, by omega, ?_⟩
  · rw [e1]; unfold v_pl; rw [← e16, ex, ey]
  · rw [e1, show (256 : Int32) = nI 256 from rfl, pk_mul, nI_add]
/-- the tests of READ and CHANGE -/
theorem test_ok {a b : rz_M} (h : WI zV a b) (hD : DC a) {p : Nat} (hp : p ≤ 65535) {r : Int32} {q : Prop} [Decidable q] (hr : ∀ f : Nat, f < 8 → a 5 5 = nI f → (q ↔ (¬ g_nd r b = 2 ∧ ¬ (g_nd r b = 1 ∧ b 19 18 = 0)))) :
    (v_test (nI p) (b2 q) a = 36864 ∧ g_wr r (nI p) b ≤ 0 ∧ (∃ f z : Nat, f < 8 ∧ a 5 5 = nI f ∧ z ≤ 24 ∧ a 10 f = nI z ∧ p < z)) ∨ (v_test (nI p) (b2 q) a = g_wr r (nI p) b ∧ ¬ v_test (nI p) (b2 q) a = 36864 ∧ ¬ g_wr r (nI p) b ≤ 0 ∧ ¬ v_test (nI p) (b2 q) a = -1) := by
  have hR := h.2.2
  have e21 : a 5 5 = b 19 21 := vV hR (by decide)
  have e22 : a 10 = b 22 := hR.2 (10, 22) (by decide)
  obtain ⟨c, hc, hc8, -, hcur⟩ := hD
  obtain ⟨c', -, hz, -⟩ := h.1
  unfold v_test g_wr
  rcases hcur with hm | ⟨f, hf, hfe⟩
  · right
    rw [← e21, hm, if_neg (fun q => q rfl), if_neg (by decide)]
    exact ⟨rfl, by decide, by decide, by decide⟩
  · have hne : ¬ a 5 5 = -1 := by
      rw [hfe]; intro q
      have : (nI f).toInt = (-1 : Int32).toInt := by rw [q]
      rw [nI_toInt (by omega)] at this
      have e1 : (-1 : Int32).toInt = -1 := rfl
      omega
    have h0 : 0 ≤ b 19 21 := by rw [← e21, hfe]; exact nI_pos' (by omega)
    have cf : (a 5 5).toNatClampNeg = f := nc hfe (by omega)
    obtain ⟨z, hz24, ez⟩ := hz f (by omega)
    have hq := hr f (by omega) hfe
    have hsz : b 22 (b 19 21).toNatClampNeg = nI z := by rw [← e21, ← e22, cf, ez]
    rw [if_pos hne, if_pos h0]
    by_cases hb : q
    · have hn := hq.mp hb
      rw [if_pos (show ¬ b2 q = 0 by rw [b2_pos hb]; decide), if_neg (show ¬ (g_nd r b = 2 ∨ (g_nd r b = 1 ∧ b 19 18 = 0)) from fun w => w.elim hn.1 hn.2), hsz]
      by_cases hpz : p < z
      · left
        rw [if_pos (nI_lt hpz (by omega))]
        refine ⟨if_pos ⟨?_, ?_, nI_pos (by omega), ?_⟩, by decide, f, z, by omega, hfe, hz24, ez, hpz⟩
        · rw [hfe]; exact nI_pos (by omega)
        · rw [hfe, hc]; exact nI_ge hf (by omega)
        · rw [cf, ez]; exact nI_ge hpz (by omega)
      · right
        rw [if_neg (nI_nlt (by omega) (by omega))]
        have : ¬ p_ho a (a 5 5) (nI p) := by
          intro w
          have := w.2.2.2
          rw [cf, ez] at this
          exact this (nI_le (by omega) (by omega))
        rw [if_neg this]
        exact ⟨rfl, by decide, by decide, by decide⟩
    · right
      have hn : g_nd r b = 2 ∨ (g_nd r b = 1 ∧ b 19 18 = 0) := by
        by_cases w1 : g_nd r b = 2
        · exact Or.inl w1
        · right
          by_cases w2 : g_nd r b = 1 ∧ b 19 18 = 0
          · exact w2
          · exact absurd (hq.mpr ⟨w1, w2⟩) hb
      rw [if_neg (show ¬ ¬ b2 q = 0 from fun w => w (b2_neg hb)), if_pos hn]
      exact ⟨rfl, by decide, by decide, by decide⟩
theorem rt_iff {r : Nat} (hr : r ≤ 2) (o : Int32) : (nI r = 0 ∨ (nI r = 1 ∧ ¬ o = 0)) ↔ (¬ nI r = 2 ∧ ¬ (nI r = 1 ∧ o = 0)) := by
  have h3 : r = 0 ∨ r = 1 ∨ r = 2 := by omega
  rcases h3 with rfl | rfl | rfl
  · exact ⟨fun _ => ⟨by decide, fun q => absurd q.1 (by decide)⟩, fun _ => Or.inl rfl⟩
  · constructor
    · rintro (q | q)
      · exact absurd q (by decide)
      · exact ⟨by decide, fun w => q.2 w.2⟩
    · intro q
      exact Or.inr ⟨rfl, fun w => q.2 ⟨rfl, w⟩⟩
  · constructor
    · rintro (q | q)
      · exact absurd q (by decide)
      · exact absurd q.1 (by decide)
    · intro q
      exact absurd rfl q.1
