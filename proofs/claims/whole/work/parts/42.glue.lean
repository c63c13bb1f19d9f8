/-! the relation looks at the class's cells of the one and the reference's cells of the other memory alone -/
theorem zV_side : ∀ p ∈ zV, p.1.1 < 19 ∧ 19 ≤ p.2.1 := by decide
theorem zA_side : ∀ q ∈ zA, q.1 < 19 ∧ 19 ≤ q.2 := by decide
theorem RL_cg {L : List ((Nat × Nat) × (Nat × Nat))} (hL : okL L) {a a' b b' : rz_M} (ha : ∀ k, k < 19 → a' k = a k) (hb : ∀ k, 19 ≤ k → b' k = b k) : RL L a' b' = RL L a b := by
  apply propext
  constructor
  · intro h
    refine ⟨fun p hp => ?_, fun q hq => ?_⟩
    · have s := zV_side p (okL_in hL p hp)
      rw [← ha _ s.1, ← hb _ s.2]; exact h.1 p hp
    · have s := zA_side q hq
      rw [← ha _ s.1, ← hb _ s.2]; exact h.2 q hq
  · intro h
    refine ⟨fun p hp => ?_, fun q hq => ?_⟩
    · have s := zV_side p (okL_in hL p hp)
      rw [ha _ s.1, hb _ s.2]; exact h.1 p hp
    · have s := zA_side q hq
      rw [ha _ s.1, hb _ s.2]; exact h.2 q hq
theorem BR_cg {a a' b b' : rz_M} (ha : ∀ k, k < 19 → a' k = a k) (hb : ∀ k, 19 ≤ k → b' k = b k) (h : BR a b) : BR a' b' := by
  have r1 := RL_cg okV ha hb
  have r2 := RL_cg (Or.inl rfl) ha hb
  have e0 := ha 0 (by omega)
  have e1 := ha 1 (by omega)
  have e2 := ha 2 (by omega)
  have e4 := ha 4 (by omega)
  have e5 := ha 5 (by omega)
  have e6 := ha 6 (by omega)
  have e7 := ha 7 (by omega)
  have e8 := ha 8 (by omega)
  have e9 := ha 9 (by omega)
  have e10 := ha 10 (by omega)
  have e11 := ha 11 (by omega)
  have e12 := ha 12 (by omega)
  have e15 := ha 15 (by omega)
  have e16 := ha 16 (by omega)
  have e17 := ha 17 (by omega)
  have g19 := hb 19 (by omega)
  have g31 := hb 31 (by omega)
  unfold BR BON OFF ON WI IPa NOTE NT DC IB ISz IAn JC REP AV at h ⊢
  rw [r1, r2, e0, e1, e2, e4, e5, e6, e7, e8, e9, e10, e11, e12, e15, e16, e17, g19, g31]
  exact h
theorem glue {a : rz_M} {x y : Int32 × rz_M} (hKH : KH x.2 y.2) (hS : SAME x y) : x.1 = y.1 ∧ BR y.2 y.2 := ⟨hS.1, BR_cg (fun k hk => hKH k hk) (fun _ _ => rfl) hS.2⟩
theorem half {a a1 : rz_M} (h : BR a a) (hKL : KL a a1) : BR a a1 := BR_cg (fun _ _ => rfl) hKL h
/-! frames of the public calls -/
theorem KL_tear {n : Int32} {a : rz_M} : KL a (f_tear n a).2 := by
  unfold f_tear
  exact KL_ite2 KL_rf (KL_ite2 (KL_up KL_rf (k := 6) (by decide)) KL_rf)
theorem KL_off {a : rz_M} : KL a (f_off a).2 := KL_pd
theorem KL_on1 {a : rz_M} : KL a (f_on1 a) := by
  unfold f_on1 f_greet
  exact KL_up (KL_up (KL_up (KL_up (KL_up (KL_up KL_rf (by decide)) (by decide)) (by decide)) (by decide)) (by decide)) (by decide)
theorem KL_co {n : Nat} {a : rz_M} : KL a (f_coL n 0 (f_pd a)).2 := KL_tr KL_pd (fun k hk => f_coL_ne n 0 _ (by omega) (by omega))
theorem KL_on {n : Nat} {a : rz_M} : KL a (f_on n a).2 := by
  unfold f_on
  refine KL_ite2 ?_ (KL_ite2 ?_ ?_)
  · show KL a (f_on1 (f_pd a))
    exact KL_tr KL_pd KL_on1
  · show KL a (f_on1 (f_coL n 0 (f_pd a)).2)
    exact KL_tr KL_co KL_on1
  · exact KL_co
theorem KL_file {d n s r c : Int32} {a : rz_M} : KL a (f_file d n s r c a).2 := by
  have h : KL a (f_add d n s r c a) := by
    unfold f_add
    exact KL_up (KL_up (KL_up (KL_up (KL_up (KL_up KL_rf (by decide)) (by decide)) (by decide)) (by decide)) (by decide)) (by decide)
  unfold f_file
  exact KL_ite2 KL_rf (KL_ite2 KL_rf (KL_ite2 (KL_ite2 KL_rf (KL_ite2 (KL_ite2 KL_rf (KL_ite2 (KL_ite2 h KL_rf) KL_rf)) KL_rf)) KL_rf))
theorem KL_feed {w : Int64} {n : Int32} {a : rz_M} : KL a (f_feed w n a).2 := by
  unfold f_feed
  exact KL_ite2 KL_rf (KL_ite2 (KL_ite2 (KL_fd w _ 0 a) KL_rf) KL_rf)
theorem KL_block {p : Int32} {w : Int64} {n : Int32} {a : rz_M} : KL a (f_block p w n a).2 := by
  have h : KL a (f_ans (n.toNatClampNeg + 4) (f_blk1 p w n.toNatClampNeg a)) := by
    refine KL_tr ?_ KL_ans
    unfold f_blk1
    refine KL_tr ?_ KL_tk
    unfold f_blk
    exact KL_tr (KL_tr (KL_tr (KL_tr (KL_up KL_rf (k := 1) (by decide)) KL_tk) KL_tk) KL_tk) (KL_tks w _ 0 _)
  unfold f_block
  exact KL_ite2 KL_rf (KL_ite2 KL_rf (KL_ite2 KL_rf (KL_ite2 (KL_ite2 h KL_rf) KL_rf)))
theorem KH_rf {b : rz_M} : KH b b := fun _ _ => rfl
theorem KH_up {b b' : rz_M} {k j : Nat} {x : Int32} (h : KH b b') (hk : 19 ≤ k) : KH b (rz_up b' k j x) := fun q hq => (rz_up_k (by omega)).trans (h q hq)
theorem KH_ite2 {c : Prop} {_ : Decidable c} {b : rz_M} {x y : Int32 × rz_M} (h1 : KH b x.2) (h2 : KH b y.2) : KH b (if c then x else y).2 := by
  split
  · exact h1
  · exact h2
theorem KH_tear {n : Int32} {b : rz_M} : KH b (g_tear n b).2 := by
  unfold g_tear
  exact KH_ite2 (KH_up KH_rf (k := 19) (by decide)) KH_rf
theorem KH_off {b : rz_M} : KH b (g_off b).2 := by
  unfold g_off
  exact KH_ite2 (KH_up (KH_up KH_rf (k := 19) (by decide)) (k := 19) (by decide)) KH_rf
theorem KH_on1 {b : rz_M} : KH b (g_on1 b) := by
  unfold g_on1
  refine KH_up (KH_up (KH_up (KH_up (KH_up ?_ (by decide)) (by decide)) (by decide)) (by decide)) (by decide)
  refine KH_tr ?_ (KB_begin).1
  exact KH_up (KH_up (KH_up (KH_up (KH_up KH_rf (by decide)) (by decide)) (by decide)) (by decide)) (by decide)
theorem KH_seL {n i : Nat} {b : rz_M} : KH b (g_seL n i b).2 := fun k hk => (KE_seL n i b).1 k (Or.inl hk)
theorem KH_on {n : Nat} {b : rz_M} : KH b (g_on n b).2 := by
  have h1 : KH b (rz_up b 19 17 1) := KH_up KH_rf (by decide)
  unfold g_on
  refine KH_ite2 ?_ (KH_ite2 ?_ ?_)
  · show KH b (g_on1 (rz_up b 19 17 1))
    exact KH_tr h1 KH_on1
  · show KH b (g_on1 (g_seL n 0 (rz_up b 19 17 1)).2)
    exact KH_tr (KH_tr h1 KH_seL) KH_on1
  · exact KH_tr h1 KH_seL
theorem KH_file {d n s r c : Int32} {b : rz_M} : KH b (g_file d n s r c b).2 := by
  have h : KH b (g_add d n s r c b) := by
    unfold g_add
    exact KH_up (KH_up (KH_up (KH_up (KH_up (KH_up KH_rf (by decide)) (by decide)) (by decide)) (by decide)) (by decide)) (by decide)
  unfold g_file
  exact KH_ite2 KH_rf (KH_ite2 (KH_ite2 h KH_rf) KH_rf)
theorem KH_feed {w : Int64} {n : Int32} {b : rz_M} : KH b (g_feed w n b).2 := by
  unfold g_feed
  exact KH_ite2 (KH_ite2 (KH_ite2 (KH_fd w _ 0 b) (KH_fd w _ 0 b)) KH_rf) KH_rf
theorem KH_block {p : Int32} {w : Int64} {n : Int32} {b : rz_M} : KH b (g_block p w n b).2 := by
  have h : KH b (g_bk1 p w n b) := by
    unfold g_bk1
    refine KH_tr ?_ KH_take
    unfold g_bk
    refine KH_tr ?_ (KH_bl w _ 0 _ _)
    unfold g_h3 g_h2 g_h1
    exact KH_tr (KH_tr (KH_tr (KH_up KH_rf (k := 19) (by decide)) KH_take) KH_take) KH_take
  unfold g_block
  exact KH_ite2 (KH_ite2 (KH_ite2 h h) KH_rf) KH_rf
