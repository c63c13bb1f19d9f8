/-! THE RELATION between the class's cells (of memory a) and the reference's (of memory b) -/
def zP : List ((Nat × Nat) × (Nat × Nat)) := [((7, 6), (19, 6)), ((6, 2), (19, 14)), ((6, 3), (19, 15)), ((6, 6), (19, 7)), ((6, 7), (19, 8)), ((6, 8), (19, 9)), ((6, 9), (19, 10)), ((6, 10), (19, 12)), ((0, 4), (19, 11))]
def zV : List ((Nat × Nat) × (Nat × Nat)) := zP ++ [((0, 3), (19, 17)), ((5, 3), (19, 18)), ((5, 4), (19, 20)), ((5, 5), (19, 21)), ((1, 6), (19, 22)), ((1, 7), (19, 23)), ((1, 8), (19, 24)), ((15, 1), (19, 31)), ((15, 2), (19, 19)), ((17, 1), (19, 32)), ((17, 2), (19, 33)), ((1, 3), (19, 34))]
def zA : List (Nat × Nat) := [(8, 20), (9, 21), (10, 22), (11, 23), (12, 24), (13, 25), (14, 26), (2, 27), (16, 28), (18, 29), (3, 30)]
def RL (L : List ((Nat × Nat) × (Nat × Nat))) (a b : rz_M) : Prop := (∀ p ∈ L, a p.1.1 p.1.2 = b p.2.1 p.2.2) ∧ (∀ q ∈ zA, a q.1 = b q.2)
def okL (L : List ((Nat × Nat) × (Nat × Nat))) : Prop := L = zP ∨ L = zV
theorem zV_inj : ∀ p ∈ zV, ∀ q ∈ zV, (p.1 = q.1 ↔ p.2 = q.2) := by decide
theorem zV_zA : ∀ p ∈ zV, ∀ q ∈ zA, p.1.1 ≠ q.1 ∧ p.2.1 ≠ q.2 := by decide
theorem zA_inj : ∀ p ∈ zA, ∀ q ∈ zA, (p.1 = q.1 ↔ p.2 = q.2) := by decide
theorem zP_zV : ∀ p ∈ zP, p ∈ zV := fun _ h => List.mem_append_left _ h
theorem okL_in {L : List ((Nat × Nat) × (Nat × Nat))} (h : okL L) : ∀ p ∈ L, p ∈ zV := by
  rcases h with rfl | rfl
  · exact zP_zV
  · exact fun _ h => h
theorem RL_zP {L : List ((Nat × Nat) × (Nat × Nat))} {a b : rz_M} (hL : okL L) (h : RL L a b) : RL zP a b := by
  rcases hL with rfl | rfl
  · exact h
  · exact ⟨fun p hp => h.1 p (zP_zV p hp), h.2⟩
theorem rd_up {μ : rz_M} {k j k0 j0 : Nat} {x : Int32} : rz_up μ k j x k0 j0 = if k0 = k ∧ j0 = j then x else μ k0 j0 := by
  by_cases hk : k0 = k
  · subst hk
    by_cases hj : j0 = j
    · subst hj; rw [rz_up_at, if_pos ⟨rfl, rfl⟩]
    · rw [rz_up_j hj, if_neg (fun q => hj q.2)]
  · rw [rz_up_k hk, if_neg (fun q => hk q.1)]
section REL
variable {L : List ((Nat × Nat) × (Nat × Nat))} {a b : rz_M}
/-- both sides write the same at places that belong together -/
theorem RL_up (hL : okL L) (h : RL L a b) {k j k' j' : Nat} {x y : Int32} (hm : ((k, j), (k', j')) ∈ zV) (hx : x = y) : RL L (rz_up a k j x) (rz_up b k' j' y) := by
  subst hx
  refine ⟨fun p hp => ?_, fun q hq => ?_⟩
  · have hi := zV_inj p (okL_in hL p hp) _ hm
    rw [rd_up, rd_up]
    by_cases e : p.1 = (k, j)
    · have e2 := hi.mp e
      rw [if_pos ⟨congrArg Prod.fst e, congrArg Prod.snd e⟩, if_pos ⟨congrArg Prod.fst e2, congrArg Prod.snd e2⟩]
    · have e2 : ¬ p.2 = (k', j') := fun q => e (hi.mpr q)
      rw [if_neg (fun q => e (Prod.ext q.1 q.2)), if_neg (fun q => e2 (Prod.ext q.1 q.2))]
      exact h.1 p hp
  · have := zV_zA _ hm q hq
    rw [rz_up_k (Ne.symm this.1), rz_up_k (Ne.symm this.2)]
    exact h.2 q hq
theorem RL_uf (hL : okL L) (h : RL L a b) {k k' : Nat} {f g : Nat → Int32} (hm : (k, k') ∈ zA) (hf : f = g) : RL L (rz_uf a k f) (rz_uf b k' g) := by
  subst hf
  refine ⟨fun p hp => ?_, fun q hq => ?_⟩
  · have := zV_zA p (okL_in hL p hp) _ hm
    rw [rz_uf_ne this.1, rz_uf_ne this.2]
    exact h.1 p hp
  · have hi := zA_inj q hq _ hm
    by_cases e : q.1 = k
    · have e2 := hi.mp e
      have e2' : q.2 = k' := e2
      rw [e, e2', rz_uf_eq, rz_uf_eq]
    · have e2 : ¬ q.2 = k' := fun z => e (hi.mpr z)
      rw [rz_uf_ne e, rz_uf_ne e2]
      exact h.2 q hq
theorem RL_ua (hL : okL L) (h : RL L a b) {k k' i i' : Nat} {x y : Int32} (hm : (k, k') ∈ zA) (hi : i = i') (hx : x = y) : RL L (rz_up a k i x) (rz_up b k' i' y) := by
  unfold rz_up
  exact RL_uf hL h hm (by rw [h.2 _ hm, hi, hx])
/-- a place that nothing on the other side belongs to -/
theorem RL_l (hL : okL L) (h : RL L a b) {k j : Nat} {x : Int32} (h1 : ∀ p ∈ zV, p.1 ≠ (k, j)) (h2 : ∀ q ∈ zA, q.1 ≠ k) : RL L (rz_up a k j x) b := by
  refine ⟨fun p hp => ?_, fun q hq => ?_⟩
  · rw [rd_up, if_neg (fun z => h1 p (okL_in hL p hp) (Prod.ext z.1 z.2))]
    exact h.1 p hp
  · rw [rz_up_k (h2 q hq)]
    exact h.2 q hq
theorem RL_r (hL : okL L) (h : RL L a b) {k j : Nat} {x : Int32} (h1 : ∀ p ∈ zV, p.2 ≠ (k, j)) (h2 : ∀ q ∈ zA, q.2 ≠ k) : RL L a (rz_up b k j x) := by
  refine ⟨fun p hp => ?_, fun q hq => ?_⟩
  · rw [rd_up, if_neg (fun z => h1 p (okL_in hL p hp) (Prod.ext z.1 z.2))]
    exact h.1 p hp
  · rw [rz_up_k (h2 q hq)]
    exact h.2 q hq
theorem RL_fl (hL : okL L) (h : RL L a b) {k : Nat} {f : Nat → Int32} (h1 : ∀ p ∈ zV, p.1.1 ≠ k) (h2 : ∀ q ∈ zA, q.1 ≠ k) : RL L (rz_uf a k f) b := by
  refine ⟨fun p hp => ?_, fun q hq => ?_⟩
  · rw [rz_uf_ne (h1 p (okL_in hL p hp))]
    exact h.1 p hp
  · rw [rz_uf_ne (h2 q hq)]
    exact h.2 q hq
theorem RL_fr (hL : okL L) (h : RL L a b) {k : Nat} {f : Nat → Int32} (h1 : ∀ p ∈ zV, p.2.1 ≠ k) (h2 : ∀ q ∈ zA, q.2 ≠ k) : RL L a (rz_uf b k f) := by
  refine ⟨fun p hp => ?_, fun q hq => ?_⟩
  · rw [rz_uf_ne (h1 p (okL_in hL p hp))]
    exact h.1 p hp
  · rw [rz_uf_ne (h2 q hq)]
    exact h.2 q hq
/-- places that stand in zV alone: the lasting relation doesn't see them -/
theorem RP_l (h : RL zP a b) {k j : Nat} {x : Int32} (h1 : ∀ p ∈ zP, p.1 ≠ (k, j)) (h2 : ∀ q ∈ zA, q.1 ≠ k) : RL zP (rz_up a k j x) b := by
  refine ⟨fun p hp => ?_, fun q hq => ?_⟩
  · rw [rd_up, if_neg (fun z => h1 p hp (Prod.ext z.1 z.2))]
    exact h.1 p hp
  · rw [rz_up_k (h2 q hq)]
    exact h.2 q hq
theorem RP_r (h : RL zP a b) {k j : Nat} {x : Int32} (h1 : ∀ p ∈ zP, p.2 ≠ (k, j)) (h2 : ∀ q ∈ zA, q.2 ≠ k) : RL zP a (rz_up b k j x) := by
  refine ⟨fun p hp => ?_, fun q hq => ?_⟩
  · rw [rd_up, if_neg (fun z => h1 p hp (Prod.ext z.1 z.2))]
    exact h.1 p hp
  · rw [rz_up_k (h2 q hq)]
    exact h.2 q hq
theorem RL_at (hL : okL L) (h : RL L a b) {k j k' j' : Nat} (hm : ((k, j), (k', j')) ∈ zP) : a k j = b k' j' := by
  rcases hL with rfl | rfl
  · exact h.1 _ hm
  · exact h.1 _ (zP_zV _ hm)
end REL
/-- what the lasting cells hold -/
def IPa (a : rz_M) : Prop := ∃ c : Nat, (a 7 6 = nI c ∧ 1 ≤ c ∧ c ≤ 8) ∧ (∀ i, i < 8 → ∃ z : Nat, z ≤ 24 ∧ a 10 i = nI z) ∧ (∀ i, i < 8 → ∃ r : Nat, r ≤ 2 ∧ a 11 i = nI r) ∧ (∀ i, i < 8 → ∃ r : Nat, r ≤ 2 ∧ a 12 i = nI r) ∧ (a 8 0 = 16128 ∧ ∀ i, i < 8 → ∃ m : Nat, m ≤ 65535 ∧ a 8 i = nI m) ∧ (a 9 0 = -1 ∧ ∀ i, i < 8 → 1 ≤ i → ∃ m : Nat, m < c ∧ a 9 i = nI m)
theorem IPa_eq {a a' : rz_M} (h7 : a' 7 = a 7) (h8 : a' 8 = a 8) (h9 : a' 9 = a 9) (h10 : a' 10 = a 10) (h11 : a' 11 = a 11) (h12 : a' 12 = a 12) (h : IPa a) : IPa a' := by
  unfold IPa
  rw [h7, h8, h9, h10, h11, h12]
  exact h
theorem IPa_up {a : rz_M} {k j : Nat} {x : Int32} (hk : k < 7 ∨ 12 < k) (h : IPa a) : IPa (rz_up a k j x) := IPa_eq (rz_up_k (by omega)) (rz_up_k (by omega)) (rz_up_k (by omega)) (rz_up_k (by omega)) (rz_up_k (by omega)) (rz_up_k (by omega)) h
theorem IPa_uf {a : rz_M} {k : Nat} {f : Nat → Int32} (hk : k < 7 ∨ 12 < k) (h : IPa a) : IPa (rz_uf a k f) := IPa_eq (rz_uf_ne (by omega)) (rz_uf_ne (by omega)) (rz_uf_ne (by omega)) (rz_uf_ne (by omega)) (rz_uf_ne (by omega)) (rz_uf_ne (by omega)) h
/-- the note, on both sides -/
def NT (a b : rz_M) : Prop := (a 6 5 = 0 ∧ b 19 16 = 0) ∨ (a 6 5 = 1 ∧ ∃ n f p : Nat, a 6 4 = nI n ∧ b 19 16 = nI n ∧ 1 ≤ n ∧ a 6 2 = nI f ∧ f < 8 ∧ a 6 3 = nI p ∧ p + n ≤ 24)
def NOTE (a b : rz_M) : Prop := NT a b ∧ ∃ t : Nat, t ≤ 3 ∧ a 6 7 = nI t
def WI (L : List ((Nat × Nat) × (Nat × Nat))) (a b : rz_M) : Prop := IPa a ∧ NOTE a b ∧ RL L a b
def TI (a b : rz_M) : Prop := WI zP a b ∧ b 19 17 = 0 ∧ b 19 34 = 0
theorem f_w_IPa {a : rz_M} (h : IPa a) : IPa (f_w a) := IPa_eq (f_w_ne (by decide)) (f_w_ne (by decide)) (f_w_ne (by decide)) (f_w_ne (by decide)) (f_w_ne (by decide)) (f_w_ne (by decide)) h
theorem w_NOTE {a b : rz_M} (h : NOTE a b) : NOTE (f_w a) (g_w b) := by
  unfold NOTE NT
  rw [f_w_6 (j := 7) (by decide) (by decide) (by decide), f_w_6 (j := 5) (by decide) (by decide) (by decide), f_w_6 (j := 4) (by decide) (by decide) (by decide), f_w_6 (j := 2) (by decide) (by decide) (by decide), f_w_6 (j := 3) (by decide) (by decide) (by decide), g_w_19 (j := 16) (by decide) (by decide) (by decide) (by decide) (by decide)]
  exact h
theorem w_ok {L : List ((Nat × Nat) × (Nat × Nat))} {a b : rz_M} (hL : okL L) (h : WI L a b) (h0 : ¬ a 6 10 = 0) : WI L (f_w a) (g_w b) := by
  refine ⟨f_w_IPa h.1, w_NOTE h.2.1, ?_⟩
  have hR := h.2.2
  have e10 : a 6 10 = b 19 12 := RL_at hL hR (by decide)
  have e8 : a 6 8 = b 19 9 := RL_at hL hR (by decide)
  unfold f_w g_w
  rw [if_pos h0, if_pos (show ¬ b 19 12 = 0 by rw [← e10]; exact h0), e10, e8]
  refine RL_up hL ?_ (by decide) rfl
  split
  · exact hR
  · exact RL_up hL hR (by decide) rfl
theorem w_torn {L : List ((Nat × Nat) × (Nat × Nat))} {a b : rz_M} (hL : okL L) (h : WI L a b) (h0 : a 6 10 = 0) : TI (f_w a) (g_w b) := by
  have hR := RL_zP hL h.2.2
  have e10 : a 6 10 = b 19 12 := RL_at (Or.inl rfl) hR (by decide)
  have e9 : a 6 9 = b 19 10 := RL_at (Or.inl rfl) hR (by decide)
  refine ⟨⟨f_w_IPa h.1, w_NOTE h.2.1, ?_⟩, ?_, ?_⟩
  · unfold f_w g_w
    rw [if_neg (fun q => q h0), if_neg (fun q => q (by rw [← e10]; exact h0)), e9]
    exact RP_r (RP_r (RL_up (Or.inl rfl) (RL_up (Or.inl rfl) hR (by decide) rfl) (by decide) rfl) (by decide) (by decide)) (by decide) (by decide)
  · unfold g_w
    rw [if_neg (fun q => q (by rw [← e10]; exact h0))]
    rfl
  · unfold g_w
    rw [if_neg (fun q => q (by rw [← e10]; exact h0))]
    rfl
/-- the note is carried out: both are torn, or neither -/
theorem co_ok {L : List ((Nat × Nat) × (Nat × Nat))} (hL : okL L) {n f p : Nat} (hn : p + n ≤ 24) (hf : f < 8) : ∀ (d i : Nat) (a b : rz_M), i + d = n → WI L a b → a 6 5 = 1 → b 19 16 = nI n → a 6 2 = nI f → a 6 3 = nI p →
    ((f_coL d i a).1 = 0 ∧ (g_seL d i b).1 = 0 ∧ TI (f_coL d i a).2 (g_seL d i b).2) ∨ ((f_coL d i a).1 = 1 ∧ (g_seL d i b).1 = 1 ∧ WI L (f_coL d i a).2 (g_seL d i b).2 ∧ (f_coL d i a).2 6 5 = 0) := by
  intro d
  induction d with
  | zero =>
    intro i a b hi h h5 h16 h2 h3
    have e10 : a 6 10 = b 19 12 := RL_at hL h.2.2 (by decide)
    by_cases h0 : a 6 10 = 0
    · left
      unfold f_coL g_seL
      rw [if_pos h0, if_pos (by rw [← e10]; exact h0)]
      exact ⟨rfl, rfl, w_torn hL h h0⟩
    · right
      unfold f_coL g_seL
      rw [if_neg h0, if_neg (by rw [← e10]; exact h0)]
      have hw := w_ok hL h h0
      refine ⟨rfl, rfl, ⟨?_, ⟨Or.inl ⟨(rz_up_at : rz_up (f_w a) 6 5 0 6 5 = 0), (rz_up_at : rz_up (g_w b) 19 16 0 19 16 = 0)⟩, hw.2.1.2⟩, ?_⟩, (rz_up_at : rz_up (f_w a) 6 5 0 6 5 = 0)⟩
      · exact IPa_up (k := 6) (by decide) hw.1
      · exact RL_l hL (RL_r hL hw.2.2 (by decide) (by decide)) (by decide) (by decide)
  | succ d ih =>
    intro i a b hi h h5 h16 h2 h3
    have e10 : a 6 10 = b 19 12 := RL_at hL h.2.2 (by decide)
    by_cases h0 : a 6 10 = 0
    · left
      unfold f_coL g_seL
      rw [if_pos h0, if_pos (by rw [← e10]; exact h0)]
      exact ⟨rfl, rfl, w_torn hL h h0⟩
    · unfold f_coL g_seL
      rw [if_neg h0, if_neg (by rw [← e10]; exact h0)]
      have hw := w_ok hL h h0
      have e14 : b 19 14 = nI f := (RL_at hL h.2.2 (k := 6) (j := 2) (by decide)).symm.trans h2
      have e15 : b 19 15 = nI p := (RL_at hL h.2.2 (k := 6) (j := 3) (by decide)).symm.trans h3
      have e26 : a 14 = b 26 := h.2.2.2 (14, 26) (by decide)
      have ix : a 6 2 * 24 + (a 6 3 + nI i) = nI (24 * f + p + i) := by
        rw [h2, h3, show (24 : Int32) = nI 24 from rfl, pk_mul, nI_add, nI_add]; congr 1; omega
      have ix2 : 24 * b 19 14 + b 19 15 + nI i = nI (24 * f + p + i) := by
        rw [e14, e15, show (24 : Int32) = nI 24 from rfl, pk_mul, nI_add, nI_add]
      have ep : f_put (a 6 2) (a 6 3 + nI i) (a 14 i) (f_w a) = rz_up (f_w a) 13 (24 * f + p + i) (a 14 i) := by
        unfold f_put
        rw [ix, if_neg (nI_pos (by omega)), if_neg (show ¬ (192 : Int32) ≤ nI (24 * f + p + i) from nI_ge (b := 192) (by omega) (by omega)), nI_clamp (by omega)]
      rw [ep, ix2, nI_clamp (by omega), e26]
      refine ih (i + 1) _ _ (by omega) ⟨?_, ?_, ?_⟩ ?_ ?_ ?_ ?_
      · exact IPa_up (k := 13) (by decide) hw.1
      · unfold NOTE NT
        rw [rz_up_k (k' := 6) (by decide), rz_up_k (k' := 19) (by decide)]
        exact hw.2.1
      · exact RL_ua hL hw.2.2 (by decide) rfl rfl
      · rw [rz_up_k (by decide), f_w_6 (by decide) (by decide) (by decide)]; exact h5
      · rw [rz_up_k (by decide), g_w_19 (by decide) (by decide) (by decide) (by decide) (by decide)]; exact h16
      · rw [rz_up_k (by decide), f_w_6 (by decide) (by decide) (by decide)]; exact h2
      · rw [rz_up_k (by decide), f_w_6 (by decide) (by decide) (by decide)]; exact h3
theorem wn_ok {L : List ((Nat × Nat) × (Nat × Nat))} (hL : okL L) : ∀ (d : Nat) (a b : rz_M), WI L a b → ((f_wn d a).1 = 0 ∧ (g_wn d b).1 = 0 ∧ TI (f_wn d a).2 (g_wn d b).2) ∨ ((f_wn d a).1 = 1 ∧ (g_wn d b).1 = 1 ∧ WI L (f_wn d a).2 (g_wn d b).2)
  | 0, a, b, h => Or.inr ⟨rfl, rfl, h⟩
  | d + 1, a, b, h => by
    have e10 : a 6 10 = b 19 12 := RL_at hL h.2.2 (by decide)
    unfold f_wn g_wn
    by_cases h0 : a 6 10 = 0
    · rw [if_pos h0, if_pos (by rw [← e10]; exact h0)]
      exact Or.inl ⟨rfl, rfl, w_torn hL h h0⟩
    · rw [if_neg h0, if_neg (by rw [← e10]; exact h0)]
      exact wn_ok hL d _ _ (w_ok hL h h0)
