/-! what the reference's steps leave as it was -/
def KB (b b' : rz_M) : Prop := (∀ k, k < 19 → b' k = b k) ∧ b' 19 30 = b 19 30
def KE (b b' : rz_M) : Prop := (∀ k, k < 19 ∨ k = 31 → b' k = b k) ∧ b' 19 30 = b 19 30 ∧ b' 19 35 = b 19 35 ∧ b' 19 36 = b 19 36
theorem KE_KB {b b' : rz_M} (h : KE b b') : KB b b' := ⟨fun k hk => h.1 k (Or.inl hk), h.2.1⟩
theorem KE_rf {b : rz_M} : KE b b := ⟨fun _ _ => rfl, rfl, rfl, rfl⟩
theorem KB_rf {b : rz_M} : KB b b := ⟨fun _ _ => rfl, rfl⟩
theorem KE_tr {b b' b'' : rz_M} (h1 : KE b b') (h2 : KE b' b'') : KE b b'' := ⟨fun k hk => (h2.1 k hk).trans (h1.1 k hk), h2.2.1.trans h1.2.1, h2.2.2.1.trans h1.2.2.1, h2.2.2.2.trans h1.2.2.2⟩
theorem KB_tr {b b' b'' : rz_M} (h1 : KB b b') (h2 : KB b' b'') : KB b b'' := ⟨fun k hk => (h2.1 k hk).trans (h1.1 k hk), h2.2.trans h1.2⟩
theorem KE_up {b b' : rz_M} {j : Nat} {x : Int32} (h : KE b b') (h30 : j ≠ 30) (h35 : j ≠ 35) (h36 : j ≠ 36) : KE b (rz_up b' 19 j x) :=
  KE_tr h ⟨fun k hk => rz_up_k (by omega), rz_up_j (Ne.symm h30), rz_up_j (Ne.symm h35), rz_up_j (Ne.symm h36)⟩
theorem KE_ua {b b' : rz_M} {k j : Nat} {x : Int32} (h : KE b b') (hk : 19 < k) (h31 : k ≠ 31) : KE b (rz_up b' k j x) :=
  KE_tr h ⟨fun k' hk' => rz_up_k (by omega), congrFun (rz_up_k (by omega)) _, congrFun (rz_up_k (by omega)) _, congrFun (rz_up_k (by omega)) _⟩
theorem KE_uf {b b' : rz_M} {k : Nat} {f : Nat → Int32} (h : KE b b') (hk : 19 < k) (h31 : k ≠ 31) : KE b (rz_uf b' k f) :=
  KE_tr h ⟨fun k' hk' => rz_uf_ne (by omega), congrFun (rz_uf_ne (by omega)) _, congrFun (rz_uf_ne (by omega)) _, congrFun (rz_uf_ne (by omega)) _⟩
theorem KB_up {b b' : rz_M} {j : Nat} {x : Int32} (h : KB b b') (h30 : j ≠ 30) : KB b (rz_up b' 19 j x) := KB_tr h ⟨fun k hk => rz_up_k (by omega), rz_up_j (Ne.symm h30)⟩
theorem KB_ua {b b' : rz_M} {k j : Nat} {x : Int32} (h : KB b b') (hk : 19 < k) : KB b (rz_up b' k j x) := KB_tr h ⟨fun k' hk' => rz_up_k (by omega), congrFun (rz_up_k (by omega)) _⟩
theorem KB_uf {b b' : rz_M} {k : Nat} {f : Nat → Int32} (h : KB b b') (hk : 19 < k) : KB b (rz_uf b' k f) := KB_tr h ⟨fun k' hk' => rz_uf_ne (by omega), congrFun (rz_uf_ne (by omega)) _⟩
theorem KE_w {b : rz_M} : KE b (g_w b) := by
  unfold g_w
  split
  · split
    · exact KE_up KE_rf (by decide) (by decide) (by decide)
    · exact KE_up (KE_up KE_rf (by decide) (by decide) (by decide)) (by decide) (by decide) (by decide)
  · exact KE_up (KE_up (KE_up (KE_up KE_rf (by decide) (by decide) (by decide)) (by decide) (by decide) (by decide)) (by decide) (by decide) (by decide)) (by decide) (by decide) (by decide)
theorem KE_seL : ∀ (d i : Nat) (b : rz_M), KE b (g_seL d i b).2
  | 0, i, b => by
    unfold g_seL
    split
    · exact KE_w
    · exact KE_up KE_w (by decide) (by decide) (by decide)
  | d + 1, i, b => by
    unfold g_seL
    split
    · exact KE_w
    · exact KE_tr (KE_ua KE_w (by decide) (by decide)) (KE_seL d (i + 1) _)
theorem KE_wn : ∀ (d : Nat) (b : rz_M), KE b (g_wn d b).2
  | 0, b => KE_rf
  | d + 1, b => by
    unfold g_wn
    split
    · exact KE_w
    · exact KE_tr KE_w (KE_wn d _)
theorem KE_chg {p d x : Int32} {n : Nat} {b : rz_M} : KE b (g_chg p d x n b).2 := by
  unfold g_chg g_chg2
  repeat' split
  all_goals first
    | exact KE_rf
    | exact KE_wn _ _
    | exact KE_tr (KE_tr (KE_wn _ _) (by unfold g_nt; exact KE_uf (KE_up (KE_up (KE_up KE_rf (by decide) (by decide) (by decide)) (by decide) (by decide) (by decide)) (by decide) (by decide) (by decide)) (by decide) (by decide))) (KE_seL _ _ _)
theorem KE_t2 {b : rz_M} : KE b (g_t2 b).2 := by
  have h1 : KE b (g_t1 b) := by
    unfold g_t1
    exact KE_up (KE_up KE_w (by decide) (by decide) (by decide)) (by decide) (by decide) (by decide)
  unfold g_t2
  repeat' split
  all_goals first
    | exact KE_w
    | exact h1
    | exact KE_tr h1 KE_w
    | exact KE_up (KE_up (KE_tr h1 KE_w) (by decide) (by decide) (by decide)) (by decide) (by decide) (by decide)
theorem KE_tell {A B d x : Int32} {b : rz_M} : KE b (g_tell A B d x b).2 := by
  unfold g_tell
  repeat' split
  all_goals first
    | exact KE_rf
    | exact KE_t2
theorem KE_renew {A B d x : Int32} {b : rz_M} : KE b (g_renew A B d x b).2 := by
  unfold g_renew
  repeat' split
  all_goals first
    | exact KE_rf
    | exact KE_w
    | exact KE_up KE_w (by decide) (by decide) (by decide)
theorem KE_fi {A B d : Int32} {b : rz_M} : KE b (g_fi A B d b).2 := by
  unfold g_fi g_fi2
  repeat' split
  all_goals first
    | exact KE_rf
    | exact KE_up KE_rf (by decide) (by decide) (by decide)
    | exact KE_up (KE_up KE_rf (by decide) (by decide) (by decide)) (by decide) (by decide) (by decide)
theorem KE_reads {p d x : Int32} {b : rz_M} : KE b (g_reads p d x b).2 := by
  unfold g_reads
  repeat' split
  all_goals first
    | exact KE_rf
    | (show KE b (g_rdm _ _ b); unfold g_rdm; exact KE_up (KE_uf KE_rf (by decide) (by decide)) (by decide) (by decide) (by decide))
theorem KE_exe {b : rz_M} : KE b (g_exe b).2 := by
  unfold g_exe g_ins
  repeat' split
  all_goals first
    | exact KE_rf
    | exact KE_tell
    | exact KE_renew
    | exact KE_fi
    | exact KE_reads
    | exact KE_chg
theorem KB_say {x : Int32} {n : Nat} {b : rz_M} : KB b (g_say x n b) := by
  unfold g_say g_say1 g_say0
  split
  · exact KB_uf (KB_up (KB_up (KB_up (KB_uf KB_rf (by decide)) (by decide)) (by decide)) (by decide)) (by decide)
  · exact KB_up (KB_uf KB_rf (by decide)) (by decide)
theorem KB_R {e : Int32} {b : rz_M} : KB b (g_R e b) := KB_say
theorem KB_nxc {b : rz_M} : KB b (g_nxc b) := by
  unfold g_nxc g_nx
  refine KB_up ?_ (by decide)
  unfold g_nx1
  refine KB_tr ?_ KB_say
  unfold g_nx0
  exact KB_up (KB_uf KB_rf (by decide)) (by decide)
theorem KB_ag {n : Nat} {b : rz_M} : KB b (g_ag n b) := by
  unfold g_ag
  exact KB_up (KB_uf KB_rf (by decide)) (by decide)
theorem KB_asks {n : Int32} {b : rz_M} : KB b (g_asks n b) := by
  unfold g_asks
  repeat' split
  · exact KB_nxc
  · exact KB_ag
  · exact KB_R
theorem KB_forget {b : rz_M} : KB b (g_forget b) := by
  unfold g_forget
  exact KB_up (KB_up (KB_up (KB_up KB_rf (by decide)) (by decide)) (by decide)) (by decide)
theorem KB_begin {b : rz_M} : KB b (g_begin b) := by
  unfold g_begin
  exact KB_tr (KB_up (KB_up (KB_up KB_rf (by decide)) (by decide)) (by decide)) KB_forget
theorem KB_cm0 {l : Nat} {b : rz_M} : KB b (g_cm0 l b) := by
  unfold g_cm0
  refine KB_tr (KB_up (KB_up (KB_up KB_rf (j := 22) (by decide)) (j := 32) (by decide)) (j := 33) (by decide)) ⟨fun k hk => g_adds_ne _ _ _ (by omega) (by omega), g_adds_19 _ _ _ (by decide) (by decide)⟩
theorem KB_fin {s : Int32} {b : rz_M} : KB b (g_fin s b) := by
  unfold g_fin g_put
  exact KB_tr (KB_up (KB_up (KB_up (KB_up (KB_ua (KB_up (KB_ua KB_rf (by decide)) (by decide)) (by decide)) (by decide)) (by decide)) (by decide)) (by decide)) KB_nxc
theorem KB_comes {l : Nat} {m : Int32} {b : rz_M} : KB b (g_comes l m b) := by
  unfold g_comes
  refine KB_tr (KB_cm0 (l := l)) ?_
  unfold g_cm1
  repeat' split
  · exact KB_tr (KE_KB KE_exe) KB_fin
  · exact KE_KB KE_exe
  · exact KB_R
theorem KB_ite {c : Prop} {_ : Decidable c} {b x y : rz_M} (h1 : KB b x) (h2 : KB b y) : KB b (if c then x else y) := by
  split
  · exact h1
  · exact h2
theorem KB_work {p l : Nat} {b : rz_M} : KB b (g_work p l b) := by
  unfold g_work
  exact KB_ite (KB_ite KB_comes KB_R) (KB_ite (KB_ite KB_R KB_asks) (KB_ite (KB_tr KB_begin KB_say) (KB_ite (KB_tr (KB_ua (KB_up KB_rf (j := 24) (by decide)) (k := 30) (by decide)) KB_say) (KB_ite (KB_tr KB_forget KB_say) KB_R))))
/-- the rest of a step: what the sum, the first OCTET and the kind of BLOCK make of it -/
def g_aft (v : Int32) (b : rz_M) : rz_M := if ¬ p_tm v b ∧ ¬ xs (g_b1 v b 27) ((b 19 30).toNatClampNeg + 1) = 0 then g_R 1 (g_b2 v b) else if p_tm v b ∨ ¬ g_b1 v b 27 0 = 0 then g_R 2 (g_b2 v b) else g_work (g_b1 v b 27 1).toNatClampNeg (g_b1 v b 27 2).toNatClampNeg (g_b2 v b)
theorem KB_aft {v : Int32} {b : rz_M} : KB (g_b2 v b) (g_aft v b) := by
  unfold g_aft
  repeat' split
  · exact KB_R
  · exact KB_R
  · exact KB_work
theorem g_take_eq {v : Int32} {b : rz_M} : g_take v b = if p_go v b then g_aft v b else g_b1 v b := rfl
/-- cells of the class -/
def KH (b b' : rz_M) : Prop := ∀ k, k < 19 → b' k = b k
theorem KH_take {v : Int32} {b : rz_M} : KH b (g_take v b) := by
  have h1 : KH b (g_b1 v b) := by
    intro k hk
    unfold g_b1
    rw [rz_up_k (by omega), rz_up_k (by omega)]
  rw [g_take_eq]
  split
  · intro k hk
    rw [KB_aft.1 k hk]
    unfold g_b2
    rw [rz_up_k (by omega)]
    exact h1 k hk
  · exact h1
theorem KH_tr {b b' b'' : rz_M} (h1 : KH b b') (h2 : KH b' b'') : KH b b'' := fun k hk => (h2 k hk).trans (h1 k hk)
theorem KH_fd (w : Int64) : ∀ (d i : Nat) (b : rz_M), KH b (g_fd w d i b)
  | 0, i, b => fun _ _ => rfl
  | d + 1, i, b => by
    unfold g_fd
    split
    · exact fun _ _ => rfl
    · exact KH_tr KH_take (KH_fd w d (i + 1) _)
theorem KH_bl (w : Int64) : ∀ (d i : Nat) (s : Int32) (b : rz_M), KH b (g_bl w d i s b).2
  | 0, i, s, b => fun _ _ => rfl
  | d + 1, i, s, b => by
    unfold g_bl
    exact KH_tr KH_take (KH_bl w d (i + 1) _ _)
/-! what the class's steps leave: the reference's cells -/
def KL (a a' : rz_M) : Prop := ∀ k, 19 ≤ k → a' k = a k
theorem KL_tr {a a' a'' : rz_M} (h1 : KL a a') (h2 : KL a' a'') : KL a a'' := fun k hk => (h2 k hk).trans (h1 k hk)
theorem KL_rf {a : rz_M} : KL a a := fun _ _ => rfl
theorem KL_up {a a' : rz_M} {k j : Nat} {x : Int32} (h : KL a a') (hk : k < 19) : KL a (rz_up a' k j x) := fun q hq => (rz_up_k (by omega)).trans (h q hq)
theorem KL_uf {a a' : rz_M} {k : Nat} {f : Nat → Int32} (h : KL a a') (hk : k < 19) : KL a (rz_uf a' k f) := fun q hq => (rz_uf_ne (by omega)).trans (h q hq)
theorem KL_say {x : Int32} {n : Nat} {d : Nat → Int32} {a : rz_M} : KL a (f_say x n d a) := by
  unfold f_say
  exact KL_up (KL_uf KL_rf (by decide)) (by decide)
theorem KL_rdy {e : Int32} {a : rz_M} : KL a (f_rdy e a) := by
  unfold f_rdy
  exact KL_up KL_say (by decide)
theorem KL_pc {a : rz_M} : KL a (f_pc a) := by
  unfold f_pc f_piece f_piece0
  exact KL_up (KL_uf (KL_up (KL_tr (KL_up KL_rf (by decide)) KL_say) (by decide)) (by decide)) (by decide)
theorem KL_pd {a : rz_M} : KL a (f_pd a) := by
  unfold f_pd f_wreset f_lreset f_resync f_forget
  repeat' (first | exact KL_rf | refine KL_up ?_ (by decide))
theorem KL_perf {a : rz_M} : KL a (f_perf a).2 := fun k hk => f_perf_ne (by omega) (by omega) (by omega) (by omega) (by omega) (by omega) (by omega)
theorem KL_ite {c : Prop} {_ : Decidable c} {a x y : rz_M} (h1 : KL a x) (h2 : KL a y) : KL a (if c then x else y) := by
  split
  · exact h1
  · exact h2
theorem KL_ite2 {c : Prop} {_ : Decidable c} {a : rz_M} {x y : Int32 × rz_M} (h1 : KL a x.2) (h2 : KL a y.2) : KL a (if c then x else y).2 := by
  split
  · exact h1
  · exact h2
theorem KL_forget {a : rz_M} : KL a (f_forget a) := by
  unfold f_forget
  exact KL_up (KL_up (KL_up (KL_up KL_rf (by decide)) (by decide)) (by decide)) (by decide)
theorem KL_resync {a : rz_M} : KL a (f_resync a) := by
  unfold f_resync
  exact KL_up (KL_up (KL_up KL_rf (by decide)) (by decide)) (by decide)
theorem KL_tI0 {a : rz_M} : KL a (f_tI0 a) := by
  intro k hk
  unfold f_tI0
  rw [f_adds_ne _ _ _ (by omega) (by omega), rz_up_k (by omega), rz_up_k (by omega), rz_up_k (by omega)]
theorem KL_cc {s : Int32} {a : rz_M} : KL a (f_cc (f_conc s a)) := by
  unfold f_cc
  exact KL_up (fun k hk => f_conc_ne (by omega) (by omega) (by omega)) (by decide)
theorem KL_tI1 {m : Int32} {a : rz_M} : KL a (f_tI1 m a) := by
  unfold f_tI1
  exact KL_ite (KL_ite (KL_tr KL_perf (KL_tr KL_cc KL_pc)) (KL_tr KL_perf KL_pd)) KL_rdy
theorem KL_tI {n m : Int32} {a : rz_M} : KL a (f_tI n m a).2 := by
  unfold f_tI
  refine KL_ite2 ?_ KL_rf
  show KL a (f_tI1 m (f_tI0 a))
  exact KL_tr KL_tI0 KL_tI1
theorem KL_again {n : Nat} {a : rz_M} : KL a (f_again n a) := by
  unfold f_again
  exact KL_up (KL_uf KL_rf (by decide)) (by decide)
theorem KL_tR {n : Int32} {a : rz_M} : KL a (f_tR n a).2 := by
  unfold f_tR
  refine KL_ite2 (KL_ite2 ?_ (KL_ite2 ?_ ?_)) KL_rf
  · show KL a (f_pc a)
    exact KL_pc
  · show KL a (f_again _ a)
    exact KL_again
  · show KL a (f_rdy 0 a)
    exact KL_rdy
theorem KL_tz {s : Int32} {a : rz_M} : KL a (f_tz s a).2 := by
  unfold f_tz
  refine KL_ite2 KL_rf (KL_ite2 ?_ KL_rf)
  show KL a (f_say _ _ _ _)
  exact KL_tr (KL_up KL_rf (k := 1) (by decide)) KL_say
theorem KL_tS {p : Int32} {a : rz_M} : KL a (f_tS p a).2 := by
  unfold f_tS
  refine KL_ite2 (KL_ite2 KL_tz KL_rf) (KL_ite2 (KL_ite2 ?_ ?_) KL_rf)
  · show KL a (f_say _ _ _ _)
    exact KL_tr (KL_tr KL_forget KL_resync) KL_say
  · show KL a (f_say _ _ _ _)
    exact KL_tr KL_forget KL_say
theorem KL_dsp {a : rz_M} : KL a (f_dsp a).2 := by
  unfold f_dsp
  exact KL_ite2 KL_tI (KL_ite2 KL_tR (KL_ite2 KL_tS KL_rf))
theorem KL_ans {n : Nat} {a : rz_M} : KL a (f_ans n a) := by
  have h1 : ∀ r : Int32 × rz_M, KL a r.2 → KL a (f_an1 r) := by
    intro r hr
    unfold f_an1
    refine KL_up ?_ (by decide)
    split
    · exact hr
    · exact KL_tr hr KL_rdy
  unfold f_ans
  split
  · exact h1 _ KL_rf
  · exact h1 _ KL_dsp
theorem KL_tk {x : Int32} {a : rz_M} : KL a (f_tk x a) := by
  unfold f_tk
  exact KL_up (KL_up KL_rf (by decide)) (by decide)
theorem KL_oct {x : Int32} {a : rz_M} : KL a (f_oct x a) := by
  unfold f_oct
  split
  · exact KL_tr KL_tk KL_ans
  · exact KL_tk
theorem KL_fd (w : Int64) : ∀ (d i : Nat) (a : rz_M), KL a (f_fd w d i a)
  | 0, i, a => KL_rf
  | d + 1, i, a => by
    unfold f_fd
    split
    · exact KL_rf
    · exact KL_tr KL_oct (KL_fd w d (i + 1) _)
theorem KL_tks (w : Int64) : ∀ (d i : Nat) (a : rz_M), KL a (f_tks w d i a)
  | 0, i, a => KL_rf
  | d + 1, i, a => by
    unfold f_tks
    exact KL_tr KL_tk (KL_tks w d (i + 1) _)
