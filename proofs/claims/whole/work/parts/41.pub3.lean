/-! file, feed, block -/
theorem UPD {Q : Int32 → Prop} {f : Nat → Int32} {c : Nat} {x : Int32} (h : ∀ i, i < 8 → Q (f i)) (hx : Q x) : ∀ i, i < 8 → Q (upd f c x i) := by
  intro i hi
  by_cases e : i = c
  · subst e; rw [pk_us]; exact hx
  · rw [pk_un e]; exact h i hi
theorem i_of {x : Int32} {m : Nat} (hm : m < 2147483648) (h0 : ¬ x < 0) (h1 : ¬ nI m < x) : ∃ j : Nat, j ≤ m ∧ x = nI j := by
  obtain ⟨j, hj, rfl⟩ := nI_of h0
  refine ⟨j, ?_, rfl⟩
  rcases Nat.lt_or_ge m j with q | q
  · exact absurd (nI_lt q hj) h1
  · exact q
theorem addf_ok {a b : rz_M} (h : OFF a b) (h11 : a 1 1 = 0) {c j m z : Nat} {r' c' : Int32} {d n s r q : Int32} (hc : a 7 6 = nI c) (hc8 : c < 8) (hj : j < c) (hd : d = nI j) (hm : m ≤ 65535) (hn : n = nI m) (hz : z ≤ 24) (hs : s = nI z) (er : r' = if s ≤ 0 then 0 else r) (eq : c' = if s ≤ 0 then 0 else q) (hr : ∃ k : Nat, k ≤ 2 ∧ r' = nI k) (hq : ∃ k : Nat, k ≤ 2 ∧ c' = nI k) : BR (f_add d n s r q a) (g_add d n s r q b) := by
  obtain ⟨h0, h1, h2, h3, hW, hO⟩ := h
  have e6 : a 7 6 = b 19 6 := RL_at (Or.inl rfl) hW.2.2 (by decide)
  have hb : b 19 6 = nI c := e6 ▸ hc
  obtain ⟨c0, ⟨hc0, c1, c8⟩, i10, i11, i12, ⟨i80, i8⟩, i90, i9⟩ := hW.1
  have : c0 = c := by
    rw [hc] at hc0
    exact ((nI_eq (by omega) (by omega)).mp hc0).symm
  subst this
  unfold f_add g_add
  rw [nc hc (by omega), nc hb (by omega), ← er, ← eq]
  refine Or.inr ⟨⟨h0, h1, h2, h3, ⟨?_, hW.2.1, ?_⟩, hO⟩, h11⟩
  · refine ⟨c0 + 1, ⟨?_, by omega, by omega⟩, UPD (Q := fun x => ∃ z : Nat, z ≤ 24 ∧ x = nI z) i10 ⟨z, hz, hs⟩, UPD (Q := fun x => ∃ z : Nat, z ≤ 2 ∧ x = nI z) i11 hr, UPD (Q := fun x => ∃ z : Nat, z ≤ 2 ∧ x = nI z) i12 hq, ⟨?_, UPD (Q := fun x => ∃ z : Nat, z ≤ 65535 ∧ x = nI z) i8 ⟨m, hm, hn⟩⟩, ?_, ?_⟩
    · show a 7 6 + 1 = nI (c0 + 1)
      rw [hc, nI_succ]
    · show upd (a 8) c0 n 0 = 16128
      rw [pk_un (by omega)]; exact i80
    · show upd (a 9) c0 d 0 = -1
      rw [pk_un (by omega)]; exact i90
    · intro i hi hi1
      show ∃ m : Nat, m < c0 + 1 ∧ upd (a 9) c0 d i = nI m
      by_cases e : i = c0
      · subst e; rw [pk_us]; exact ⟨j, by omega, hd⟩
      · rw [pk_un e]
        obtain ⟨m, hm, e⟩ := i9 i hi hi1
        exact ⟨m, by omega, e⟩
  · refine RL_up (Or.inl rfl) ?_ (by decide) (by rw [e6])
    exact RL_ua (Or.inl rfl) (RL_ua (Or.inl rfl) (RL_ua (Or.inl rfl) (RL_ua (Or.inl rfl) (RL_ua (Or.inl rfl) hW.2.2 (by decide) rfl rfl) (by decide) rfl rfl) (by decide) rfl rfl) (by decide) rfl rfl) (by decide) rfl rfl
theorem file_ok {a b : rz_M} (h : BR a b) (d n s r c : Int32) : (0 ≤ a 7 6 ∧ a 7 6 ≤ 8) ∧ (0 ≤ b 19 6 ∧ b 19 6 ≤ 8) ∧ (¬ d < 0 ∧ ¬ b 19 6 - 1 < d → vp_in d 8) ∧ SAME (f_file d n s r c a) (g_file d n s r c b) := by
  obtain ⟨k, hk, k1, k8, e6, hi, hj⟩ := BR_cnt h
  have l0 : 0 ≤ a 7 6 := by rw [hk]; exact nI_pos' (by omega)
  have l8 : a 7 6 ≤ 8 := by rw [hk]; exact nI_le (b := 8) k8 (by omega)
  refine ⟨⟨l0, l8⟩, ⟨e6 ▸ l0, e6 ▸ l8⟩, fun q => ?_, ?_⟩
  · obtain ⟨j, hjk, rfl⟩ := hj d ((hi d).mpr q)
    exact vp_in_nI (by omega) (by omega)
  · unfold f_file g_file
    have e10 : a 10 = b 22 := BR_ar h (by decide)
    obtain ⟨e17, -⟩ := BR_on h
    have bad : p_bad d n s r c b → SAME (-1, a) (if p_bad d n s r c b then (-1, b) else if b 19 17 = 0 then (if ¬ b 19 6 = 8 then (b 19 6 + 1 - 1, g_add d n s r c b) else (-2, b)) else (-3, b)) := by
      intro q
      rw [if_pos q]; exact ⟨rfl, h⟩
    by_cases h1 : n < 0
    · rw [if_pos h1]; exact bad (Or.inl (fun q => q.1 h1))
    rw [if_neg h1]
    by_cases h2 : 65535 < n
    · rw [if_pos h2]; exact bad (Or.inl (fun q => q.2 h2))
    rw [if_neg h2]
    by_cases h3 : ¬ d < 0 ∧ ¬ a 7 6 ≤ d ∧ a 10 d.toNatClampNeg = 0
    · rw [if_pos h3]
      have hf : p_fold d b := ⟨(hi d).mp ⟨h3.1, h3.2.1⟩, e10 ▸ h3.2.2⟩
      by_cases h4 : s < 0
      · rw [if_pos h4]; exact bad (Or.inr (Or.inr (Or.inl (fun q => q.1 h4))))
      rw [if_neg h4]
      by_cases h5 : s ≤ 24
      · rw [if_pos h5]
        have h5' : ¬ 24 < s := Int32.not_lt.mpr h5
        by_cases h6 : ¬ s ≤ 0 ∧ ¬ ((¬ r < 0 ∧ ¬ 2 < r) ∧ (¬ c < 0 ∧ ¬ 2 < c))
        · rw [if_pos h6]; exact bad (Or.inr (Or.inr (Or.inr h6)))
        · rw [if_neg h6, if_neg (show ¬ p_bad d n s r c b by
            rintro (q | q | q | q)
            · exact q ⟨h1, h2⟩
            · exact q hf
            · exact q ⟨h4, h5'⟩
            · exact h6 q), ← e17]
          by_cases h7 : a 0 3 = 0
          · rw [if_pos h7, if_pos h7]
            have hoff : OFF a b ∧ a 1 1 = 0 := by
              rcases h with h | h
              · exact absurd (h.1.1.symm.trans h7) (by decide)
              · exact h
            have c8 : a 7 6 < 8 ↔ ¬ b 19 6 = 8 := by
              rw [← e6, hk]
              constructor
              · intro q w
                rw [w] at q
                exact absurd q (by decide)
              · intro q
                refine nI_lt (b := 8) ?_ (by omega)
                rcases Nat.lt_or_ge k 8 with w | w
                · exact w
                · exact absurd (by rw [show k = 8 by omega]; rfl) q
            by_cases h8 : a 7 6 < 8
            · rw [if_pos h8, if_pos (c8.mp h8)]
              have k8' : k < 8 := by rw [hk] at h8; exact (nI_ltI (b := 8) (by omega) (by omega)).mp h8
              refine ⟨?_, ?_⟩
              · show a 7 6 = b 19 6 + 1 - 1
                rw [← e6, hk, nI_1, nI_pred]
              · obtain ⟨j, hjk, ed⟩ := hj d ⟨h3.1, h3.2.1⟩
                obtain ⟨m, hm, en⟩ := i_of (m := 65535) (by omega) h1 h2
                obtain ⟨z, hz, es⟩ := i_of (m := 24) (by omega) h4 h5'
                have rt : ∀ x : Int32, ((¬ s ≤ 0) → ¬ x < 0 ∧ ¬ 2 < x) → ∃ k : Nat, k ≤ 2 ∧ (if s ≤ 0 then 0 else x) = nI k := by
                  intro x hx
                  by_cases q : s ≤ 0
                  · rw [if_pos q]; exact ⟨0, by omega, rfl⟩
                  · rw [if_neg q]; exact i_of (m := 2) (by omega) (hx q).1 (hx q).2
                have hh : ¬ s ≤ 0 → (¬ r < 0 ∧ ¬ 2 < r) ∧ (¬ c < 0 ∧ ¬ 2 < c) := fun q => Decidable.not_not.mp (fun w => h6 ⟨q, w⟩)
                exact addf_ok hoff.1 hoff.2 hk k8' hjk ed hm en hz es rfl rfl (rt r (fun q => (hh q).1)) (rt c (fun q => (hh q).2))
            · rw [if_neg h8, if_neg (fun q => h8 (c8.mpr q))]
              exact ⟨rfl, h⟩
          · rw [if_neg h7, if_neg h7]
            exact ⟨rfl, h⟩
      · rw [if_neg h5]; exact bad (Or.inr (Or.inr (Or.inl (fun q => q.2 (Int32.not_le.mp h5)))))
    · rw [if_neg h3]
      refine bad (Or.inr (Or.inl (fun q => h3 ?_)))
      have := (hi d).mpr q.1
      exact ⟨this.1, this.2, e10 ▸ q.2⟩
theorem BR_11 {a b : rz_M} (h : BR a b) : a 1 1 = if b 19 17 = 0 then 0 else b 19 30 := by
  obtain ⟨e17, -⟩ := BR_on h
  rcases h with h | h
  · rw [if_neg (show ¬ b 19 17 = 0 by rw [← e17, h.1.1]; decide)]; exact h.2.1
  · rw [if_pos h.1.2.1]; exact h.2
theorem BR_13' {a b : rz_M} (h : BR a b) : a 1 3 = if b 19 17 = 0 then 0 else b 19 34 := by
  obtain ⟨e17, -⟩ := BR_on h
  obtain ⟨e, -⟩ := BR_13 h
  rcases h with h | h
  · rw [if_neg (show ¬ b 19 17 = 0 by rw [← e17, h.1.1]; decide)]; exact e
  · rw [if_pos h.1.2.1]; exact h.1.2.2.1
theorem pair_if {c : Prop} {_ : Decidable c} {x y : Int32} {m : rz_M} : (if c then (x, m) else (y, m)) = ((if c then x else y), m) := by
  split <;> rfl
theorem feed_ok {a b : rz_M} (h : BR a b) (w : Int64) (n : Int32) : (¬ n < 1 → n ≤ 8 → ¬ a 0 3 = 0 → OK_fd w n.toNatClampNeg 0 a) ∧ (¬ n < 1 ∧ ¬ 8 < n → ¬ b 19 17 = 0 → OKT_fd w n.toNatClampNeg 0 b) ∧ SAME (f_feed w n a) (g_feed w n b) := by
  obtain ⟨f1, f2, f3⟩ := fd_ok w n.toNatClampNeg 0 a b h
  refine ⟨fun _ _ _ => f1, fun _ _ => f2, ?_⟩
  obtain ⟨e17, -⟩ := BR_on h
  unfold f_feed g_feed
  by_cases h1 : n < 1
  · rw [if_pos h1, if_neg (fun q => q.1 h1)]; exact ⟨rfl, h⟩
  rw [if_neg h1]
  by_cases h2 : n ≤ 8
  · rw [if_pos h2, if_pos (show ¬ n < 1 ∧ ¬ 8 < n from ⟨h1, Int32.not_lt.mpr h2⟩), ← e17]
    by_cases h3 : a 0 3 = 0
    · rw [if_neg (show ¬ ¬ a 0 3 = 0 from fun q => q h3), if_neg (show ¬ ¬ a 0 3 = 0 from fun q => q h3)]; exact ⟨rfl, h⟩
    · rw [if_pos h3, if_pos h3, pair_if]
      exact ⟨BR_11 f3, f3⟩
  · rw [if_neg h2, if_neg (fun q => q.2 (Int32.not_le.mp h2))]; exact ⟨rfl, h⟩
theorem nI_xor (a b : Nat) : nI a ^^^ nI b = nI (a ^^^ b) := by
  apply Int32.toBitVec_inj.1
  show BitVec.ofNat 32 a ^^^ BitVec.ofNat 32 b = BitVec.ofNat 32 (a ^^^ b)
  apply BitVec.eq_of_getLsbD_eq
  intro i hi
  simp [BitVec.getLsbD_ofNat, hi]
theorem OV_xor {x y : Int32} (hx : OV x) (hy : OV y) : OV (x ^^^ y) := by
  obtain ⟨p, hp, rfl⟩ := hx
  obtain ⟨q, hq, rfl⟩ := hy
  refine ⟨p ^^^ q, ?_, ?_⟩
  · have := Nat.xor_lt_two_pow (x := p) (y := q) (n := 8) (by omega) (by omega)
    omega
  · exact (nI_xor p q)
theorem OV_xs {f : Nat → Int32} (h : OCT f) : ∀ k, OV (xs f k)
  | 0 => ⟨0, by omega, rfl⟩
  | k + 1 => OV_xor (OV_xs h k) (h k)
theorem xs_upd {f : Nat → Int32} {j : Nat} {x : Int32} : ∀ k, k ≤ j → xs (upd f j x) k = xs f k
  | 0, _ => rfl
  | k + 1, h => by
    unfold xs
    rw [xs_upd k (by omega), pk_un (by omega)]
/-- an OCTET that ends no BLOCK, on both sides -/
theorem st_ok {a b : rz_M} {x : Int32} (h : BON a b) (hx : OV x) {m : Nat} (hm : a 1 1 = nI m) (hm36 : m < 36) (hng : ¬ p_wh (f_tk x a)) : IT1 x b ∧ BON (f_tk x a) (g_take x b) ∧ f_tk x a 1 1 = nI (m + 1) ∧ f_tk x a 2 = upd (a 2) m x := by
  obtain ⟨w1, -, -, -⟩ := wh_iff h hx hm hm36
  have ng : ¬ p_go x b := fun q => hng (w1.mpr q)
  refine ⟨IT1_of h hx, ?_, ?_, ?_⟩
  · rw [g_take_eq, if_neg ng]
    exact nw_ok h hx hm hm36 ng
  · rw [tk_mem hm hm36]; rfl
  · rw [tk_mem hm hm36]; rfl
theorem bl_ok (w : Int64) {n : Nat} (hn : n ≤ 8) : ∀ (d i : Nat) (a b : rz_M) (s : Int32), i + d = n → BON a b → a 1 1 = nI (3 + i) → a 2 2 = nI n → s = xs (a 2) (3 + i) →
    OK_bl w d i s b ∧ BON (f_tks w d i a) (g_bl w d i s b).2 ∧ (g_bl w d i s b).1 = xs (f_tks w d i a 2) (3 + n) ∧ f_tks w d i a 1 1 = nI (3 + n) ∧ f_tks w d i a 2 2 = nI n
  | 0, i, a, b, s, hi, h, h11, h22, hs => by
    have : i = n := by omega
    subst this
    refine ⟨?_, h, hs, h11, h22⟩
    unfold OK_bl
    exact IT1_of h (hs ▸ OV_xs h.1.2.2.2.1.2.2.2.2.2.1 _)
  | d + 1, i, a, b, s, hi, h, h11, h22, hs => by
    have e22 : f_tk (v_oct w (nI i)) a 2 2 = nI n := by
      rw [tk_mem h11 (by omega)]
      show upd (a 2) (3 + i) _ 2 = nI n
      rw [pk_un (by omega)]; exact h22
    have e11 : f_tk (v_oct w (nI i)) a 1 1 = nI (3 + i + 1) := by rw [tk_mem h11 (by omega)]; rfl
    have nw : ¬ p_wh (f_tk (v_oct w (nI i)) a) := by
      rintro ⟨-, q | q⟩
      · rw [e22] at q
        exact q (nI_le (b := 32) (by omega) (by omega))
      · rw [e22, e11, show (3 : Int32) = nI 3 from rfl, nI_add, ← nI_succ] at q
        have := (nI_eq (by omega) (by omega)).mp q
        omega
    obtain ⟨s1, s2, s3, s4⟩ := st_ok h (OV_oct w (nI i)) h11 (by omega) nw
    unfold OK_bl f_tks g_bl
    rw [oct_eq] at s1 s2 s3 s4 e22
    have nx := bl_ok w hn d (i + 1) (f_tk (w_oct w (nI i)) a) (g_take (w_oct w (nI i)) b) (s ^^^ w_oct w (nI i)) (by omega) s2 (by rw [s3]; congr 1) e22 (by
      rw [s4, show 3 + (i + 1) = (3 + i) + 1 by omega]
      unfold xs
      rw [xs_upd _ (Nat.le_refl _), pk_us, hs])
    rw [oct_eq]
    exact ⟨⟨s1, nx.1⟩, nx.2⟩
theorem block_ok {a b : rz_M} (h : BR a b) (p : Int32) (w : Int64) (n : Int32) : (¬ p < 0 → ¬ 255 < p → ¬ n < 0 → n ≤ 8 → ¬ a 0 3 = 0 → IA (f_blk1 p w n.toNatClampNeg a)) ∧ ((¬ p < 0 ∧ ¬ 255 < p) ∧ (¬ n < 0 ∧ ¬ 8 < n) → ¬ b 19 17 = 0 → IT1 0 (rz_up b 19 30 0) ∧ IT1 p (g_h1 b) ∧ IT1 n (g_h2 p b) ∧ OK_bl w n.toNatClampNeg 0 (p ^^^ n) (g_h3 p n b)) ∧ SAME (f_block p w n a) (g_block p w n b) := by
  obtain ⟨e17, -⟩ := BR_on h
  have key : ¬ p < 0 → ¬ 255 < p → ¬ n < 0 → n ≤ 8 → ¬ a 0 3 = 0 → IA (f_blk1 p w n.toNatClampNeg a) ∧ (IT1 0 (rz_up b 19 30 0) ∧ IT1 p (g_h1 b) ∧ IT1 n (g_h2 p b) ∧ OK_bl w n.toNatClampNeg 0 (p ^^^ n) (g_h3 p n b)) ∧ BR (f_ans (n.toNatClampNeg + 4) (f_blk1 p w n.toNatClampNeg a)) (g_bk1 p w n b) := by
    intro h1 h2 h3 h4 h5
    obtain ⟨nn, hn8, hn⟩ := i_of (m := 8) (by omega) h3 (Int32.not_lt.mpr h4)
    obtain ⟨pp, hp255, hp⟩ := i_of (m := 255) (by omega) h1 h2
    have hON : ON a b := by
      rcases h with h | h
      · exact h.1
      · exact absurd h.1.1 h5
    have cn : n.toNatClampNeg = nn := nc hn (by omega)
    unfold g_bk1 g_bk
    rw [cn]
    have b0 : BON (rz_up a 1 1 0) (rz_up b 19 30 0) := ⟨ON_11 (ON_30 hON), rfl, 0, by omega, rfl, fun q => by omega⟩
    obtain ⟨s1, s2, s3, s4⟩ := st_ok b0 (x := 0) ⟨0, by omega, rfl⟩ (m := 0) rfl (by omega) (fun q => q.1 (show nI 1 < 3 by decide))
    obtain ⟨t1, t2, t3, t4⟩ := st_ok s2 (x := p) ⟨pp, hp255, hp⟩ (m := 1) s3 (by omega) (fun q => q.1 (by
      have e : f_tk p (f_tk 0 (rz_up a 1 1 0)) 1 1 = nI 2 := by rw [tk_mem s3 (by omega)]; rfl
      rw [e]; decide))
    obtain ⟨u1, u2, u3, u4⟩ := st_ok t2 (x := n) ⟨nn, by omega, hn⟩ (m := 2) t3 (by omega) (fun q => by
      have e : f_tk n (f_tk p (f_tk 0 (rz_up a 1 1 0))) 1 1 = nI 3 := by rw [tk_mem t3 (by omega)]; rfl
      have e2 : f_tk n (f_tk p (f_tk 0 (rz_up a 1 1 0))) 2 2 = nI nn := by rw [tk_mem t3 (by omega)]; exact hn
      rcases q.2 with z | z
      · rw [e2] at z
        exact z (nI_le (b := 32) (by omega) (by omega))
      · rw [e, e2, show (3 : Int32) = nI 3 from rfl, nI_add, ← nI_succ] at z
        have := (nI_eq (by omega) (by omega)).mp z
        omega)
    have x22 : f_tk n (f_tk p (f_tk 0 (rz_up a 1 1 0))) 2 2 = nI nn := by rw [u4, pk_us]; exact hn
    have xx : p ^^^ n = xs (f_tk n (f_tk p (f_tk 0 (rz_up a 1 1 0))) 2) (3 + 0) := by
      rw [u4, t4, s4]
      show p ^^^ n = (((0 : Int32) ^^^ 0) ^^^ p) ^^^ n
      rw [show ((0 : Int32) ^^^ 0) = 0 from rfl, Int32.zero_xor]
    obtain ⟨v1, v2, v3, v4, v5⟩ := bl_ok w hn8 nn 0 _ (g_h3 p n b) (p ^^^ n) (by omega) u2 u3 x22 xx
    have eb : f_blk p w nn a = f_tks w nn 0 (f_tk n (f_tk p (f_tk 0 (rz_up a 1 1 0)))) := by
      unfold f_blk
      rw [hn]
    have ov : OV (g_bl w nn 0 (p ^^^ n) (g_h3 p n b)).1 := by
      rw [v3]
      exact OV_xs v2.1.2.2.2.1.2.2.2.2.2.1 _
    have e1 : f_blk1 p w nn a = f_tk (g_bl w nn 0 (p ^^^ n) (g_h3 p n b)).1 (f_tks w nn 0 (f_tk n (f_tk p (f_tk 0 (rz_up a 1 1 0))))) := by
      unfold f_blk1
      rw [eb, ← v3]
    have x11 : f_tk (g_bl w nn 0 (p ^^^ n) (g_h3 p n b)).1 (f_tks w nn 0 (f_tk n (f_tk p (f_tk 0 (rz_up a 1 1 0))))) 1 1 = nI (3 + nn + 1) := by rw [tk_mem v4 (by omega)]; rfl
    have y22 : f_tk (g_bl w nn 0 (p ^^^ n) (g_h3 p n b)).1 (f_tks w nn 0 (f_tk n (f_tk p (f_tk 0 (rz_up a 1 1 0))))) 2 2 = nI nn := by
      rw [tk_mem v4 (by omega)]
      show upd _ (3 + nn) _ 2 = nI nn
      rw [pk_un (by omega)]; exact v5
    obtain ⟨w1, -, -, -⟩ := wh_iff v2 ov v4 (by omega)
    have go := w1.mp (show p_wh _ from ⟨by rw [x11]; exact nI_nlt (a := 3 + nn + 1) (b := 3) (by omega) (by omega), Or.inr (by rw [x11, y22, show (3 : Int32) = nI 3 from rfl, nI_add, ← nI_succ])⟩)
    have hb := v2.2.1 ▸ v4
    have hON1 : ON (f_tk (g_bl w nn 0 (p ^^^ n) (g_h3 p n b)).1 (f_tks w nn 0 (f_tk n (f_tk p (f_tk 0 (rz_up a 1 1 0)))))) (g_b1 (g_bl w nn 0 (p ^^^ n) (g_h3 p n b)).1 (g_bl w nn 0 (p ^^^ n) (g_h3 p n b)).2) := by
      rw [tk_mem v4 (by omega), b1_mem hb (by omega)]
      exact ON_tk v2.1 ov _
    rw [e1]
    refine ⟨IA_of hON1, ⟨s1, t1, u1, v1⟩, ?_⟩
    rw [g_take_eq, if_pos go, show nn + 4 = 3 + nn + 1 by omega]
    exact wh_ok v2 ov v4 (by omega) go
  refine ⟨fun h1 h2 h3 h4 h5 => (key h1 h2 h3 h4 h5).1, fun q h5 => (key q.1.1 q.1.2 q.2.1 (Int32.not_lt.mp q.2.2) (e17 ▸ h5)).2.1, ?_⟩
  unfold f_block g_block
  by_cases h1 : p < 0
  · rw [if_pos h1, if_neg (fun q => q.1.1 h1)]; exact ⟨rfl, h⟩
  rw [if_neg h1]
  by_cases h2 : 255 < p
  · rw [if_pos h2, if_neg (fun q => q.1.2 h2)]; exact ⟨rfl, h⟩
  rw [if_neg h2]
  by_cases h3 : n < 0
  · rw [if_pos h3, if_neg (fun q => q.2.1 h3)]; exact ⟨rfl, h⟩
  rw [if_neg h3]
  by_cases h4 : n ≤ 8
  · rw [if_pos h4, if_pos (show (¬ p < 0 ∧ ¬ 255 < p) ∧ (¬ n < 0 ∧ ¬ 8 < n) from ⟨⟨h1, h2⟩, h3, Int32.not_lt.mpr h4⟩), ← e17]
    by_cases h5 : a 0 3 = 0
    · rw [if_neg (show ¬ ¬ a 0 3 = 0 from fun q => q h5), if_neg (show ¬ ¬ a 0 3 = 0 from fun q => q h5)]; exact ⟨rfl, h⟩
    · rw [if_pos h5, if_pos h5, pair_if]
      obtain ⟨-, -, k3⟩ := key h1 h2 h3 h4 h5
      exact ⟨BR_13' k3, k3⟩
  · rw [if_neg h4, if_neg (fun q => q.2.2 (Int32.not_le.mp h4))]; exact ⟨rfl, h⟩
