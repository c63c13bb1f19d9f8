/-! THE LAW'S LOOP, as a walk of its blocks -/
set_option maxRecDepth 100000 in
set_option maxHeartbeats 4000000 in
theorem bd_Lw {L : Nat} {xs : Nat → Int32} (hL : L ≤ 3072) : ∀ (Y : Nat → rz_K) (P : rz_P), (∀ μ, P (some (.int 1)) μ) → (∀ b ls st μ, rz_ex P Y (bk_Lw L xs b) ls st μ → Y b ls st μ) →
    ∀ (n i : Nat) (μ : rz_M), L < i + n → BR μ μ → i ≤ L → Y 1 [some (.ref 1000), some (.ref 0), some (.ref 19), some (.int (nI i))] [] μ := by
  intro Y P hP hY n
  induction n with
  | zero => intro i μ h1 h2 h3; omega
  | succ n ih =>
    intro i μ hn h hi
    have go : ¬ nI L - 6 < nI i → i + 6 ≤ L := by
      intro q
      rcases Nat.lt_or_ge L (i + 6) with w | w
      · refine absurd ?_ q
        rw [show (6 : Int32) = nI 6 from rfl, i_lt, pk_sub_toInt (by omega) (by omega), nI_toInt (by omega)]
        omega
      · exact w
    refine hY 1 _ _ _ (And.intro (fun _ => hY 13 _ _ _ (And.intro rfl (hP μ))) (fun q => ?_))
    have h6 := go q
    have v0 : vp_in (nI i) L := vp_in_nI (by omega) (by omega)
    have v1 : vp_in (nI i + 1) L := by rw [nI_1]; exact vp_in_nI (by omega) (by omega)
    have v2 : vp_in (nI i + 2) L := by rw [show (2 : Int32) = nI 2 from rfl, nI_add]; exact vp_in_nI (by omega) (by omega)
    have v3 : vp_in (nI i + 3) L := by rw [show (3 : Int32) = nI 3 from rfl, nI_add]; exact vp_in_nI (by omega) (by omega)
    have v4 : vp_in (nI i + 4) L := by rw [show (4 : Int32) = nI 4 from rfl, nI_add]; exact vp_in_nI (by omega) (by omega)
    have v5 : vp_in (nI i + 5) L := by rw [show (5 : Int32) = nI 5 from rfl, nI_add]; exact vp_in_nI (by omega) (by omega)
    have nx : ∀ ν : rz_M, BR ν ν → Y 12 [some (.ref 1000), some (.ref 0), some (.ref 19), some (.int (nI i))] [] ν := by
      intro ν hν
      refine hY 12 _ _ _ ?_
      have := ih (i + 6) ν (by omega) hν h6
      rw [← nI_add] at this
      exact this
    refine And.intro v0 ?_
    refine And.intro (fun _ => ?_) (fun _ => And.intro (fun _ => ?_) (fun _ => And.intro (fun _ => ?_) (fun _ => And.intro (fun _ => ?_) (fun _ => And.intro (fun _ => ?_) (fun _ => And.intro (fun _ => ?_) (fun _ => And.intro (fun _ => ?_) (fun _ => And.intro (fun _ => ?_) (fun _ => And.intro (fun _ => ?_) (fun _ => And.intro (fun _ => ?_) (fun _ => nx μ h))))))))))
    · -- file
      obtain ⟨c1, -, -, -⟩ := file_ok h (xs (nI i + 1).toNatClampNeg) (xs (nI i + 2).toNatClampNeg) (xs (nI i + 3).toNatClampNeg) (xs (nI i + 4).toNatClampNeg) (xs (nI i + 5).toNatClampNeg)
      obtain ⟨-, c2, c3, c4⟩ := file_ok (half h KL_file) (xs (nI i + 1).toNatClampNeg) (xs (nI i + 2).toNatClampNeg) (xs (nI i + 3).toNatClampNeg) (xs (nI i + 4).toNatClampNeg) (xs (nI i + 5).toNatClampNeg)
      obtain ⟨g1, g2⟩ := glue (a := μ) KH_file c4
      exact hY 2 _ _ _ (And.intro v1 (And.intro v2 (And.intro v3 (And.intro v4 (And.intro v5 ⟨_, _, _, _, _, rfl, c1.1, c1.2, And.intro v1 (And.intro v2 (And.intro v3 (And.intro v4 (And.intro v5 ⟨_, _, _, _, _, rfl, c2.1, c2.2, c3, And.intro (fun _ => nx _ g2) (fun z => absurd g1 z)⟩))))⟩)))))
    · -- tear
      obtain ⟨g1, g2⟩ := glue (a := μ) KH_tear (tear_ok (half h KL_tear) (xs (nI i + 1).toNatClampNeg))
      exact hY 3 _ _ _ (And.intro v1 ⟨_, rfl, And.intro v1 ⟨_, rfl, And.intro (fun _ => nx _ g2) (fun z => absurd g1 z)⟩⟩)
    · -- on
      obtain ⟨-, -, c1, -, -⟩ := on_ok h
      obtain ⟨f0, p0, -, c2, c3⟩ := on_ok (half h (KL_on (n := (μ 6 4).toNatClampNeg)))
      obtain ⟨g1, g2⟩ := glue (a := μ) KH_on c3
      exact hY 4 _ _ _ ⟨_, rfl, c1, ⟨_, f0, p0, rfl, c2, And.intro (fun _ => nx _ g2) (fun z => absurd g1 z)⟩⟩
    · -- off
      obtain ⟨g1, g2⟩ := glue (a := μ) KH_off (off_ok (half h KL_off))
      exact hY 5 _ _ _ ⟨rfl, ⟨rfl, And.intro (fun _ => nx _ g2) (fun z => absurd g1 z)⟩⟩
    · -- feed
      obtain ⟨c1, -, -⟩ := feed_ok h (((xs (nI i + 1).toNatClampNeg).toInt64 <<< ((32 : Int32).toInt64 &&& 63)) ||| ((xs (nI i + 2).toNatClampNeg).toInt64 &&& 4294967295)) (xs (nI i + 3).toNatClampNeg)
      obtain ⟨-, c2, c3⟩ := feed_ok (half h (KL_feed (w := (((xs (nI i + 1).toNatClampNeg).toInt64 <<< ((32 : Int32).toInt64 &&& 63)) ||| ((xs (nI i + 2).toNatClampNeg).toInt64 &&& 4294967295))) (n := xs (nI i + 3).toNatClampNeg))) (((xs (nI i + 1).toNatClampNeg).toInt64 <<< ((32 : Int32).toInt64 &&& 63)) ||| ((xs (nI i + 2).toNatClampNeg).toInt64 &&& 4294967295)) (xs (nI i + 3).toNatClampNeg)
      obtain ⟨g1, g2⟩ := glue (a := μ) KH_feed c3
      exact hY 6 _ _ _ (And.intro v1 (And.intro v2 (And.intro v3 ⟨_, _, rfl, c1, And.intro v1 (And.intro v2 (And.intro v3 ⟨_, _, rfl, c2, And.intro (fun _ => nx _ g2) (fun z => absurd g1 z)⟩))⟩)))
    · -- block
      obtain ⟨c1, -, -⟩ := block_ok h (xs (nI i + 1).toNatClampNeg) (((xs (nI i + 2).toNatClampNeg).toInt64 <<< ((32 : Int32).toInt64 &&& 63)) ||| ((xs (nI i + 3).toNatClampNeg).toInt64 &&& 4294967295)) (xs (nI i + 4).toNatClampNeg)
      obtain ⟨-, c2, c3⟩ := block_ok (half h (KL_block (p := xs (nI i + 1).toNatClampNeg) (w := (((xs (nI i + 2).toNatClampNeg).toInt64 <<< ((32 : Int32).toInt64 &&& 63)) ||| ((xs (nI i + 3).toNatClampNeg).toInt64 &&& 4294967295))) (n := xs (nI i + 4).toNatClampNeg))) (xs (nI i + 1).toNatClampNeg) (((xs (nI i + 2).toNatClampNeg).toInt64 <<< ((32 : Int32).toInt64 &&& 63)) ||| ((xs (nI i + 3).toNatClampNeg).toInt64 &&& 4294967295)) (xs (nI i + 4).toNatClampNeg)
      obtain ⟨g1, g2⟩ := glue (a := μ) KH_block c3
      exact hY 7 _ _ _ (And.intro v1 (And.intro v2 (And.intro v3 (And.intro v4 ⟨_, _, _, rfl, c1, And.intro v1 (And.intro v2 (And.intro v3 (And.intro v4 ⟨_, _, _, rfl, c2, And.intro (fun _ => nx _ g2) (fun z => absurd g1 z)⟩)))⟩))))
    · -- reply
      obtain ⟨c1, c2, c3⟩ := reply_ok h (xs (nI i + 1).toNatClampNeg)
      exact hY 8 _ _ _ (And.intro v1 ⟨_, rfl, c2, And.intro v1 ⟨_, rfl, c3, And.intro (fun _ => nx _ h) (fun z => absurd c1 z)⟩⟩)
    · -- stored
      obtain ⟨c1, c2, c3, c4⟩ := stored_ok h (xs (nI i + 1).toNatClampNeg) (xs (nI i + 2).toNatClampNeg)
      exact hY 9 _ _ _ (And.intro v1 (And.intro v2 ⟨_, _, rfl, c2, c3, And.intro v1 (And.intro v2 ⟨_, _, rfl, c4, And.intro (fun _ => nx _ h) (fun z => absurd c1 z)⟩)⟩))
    · -- state
      have c1 := state_ok h (xs (nI i + 1).toNatClampNeg)
      exact hY 10 _ _ _ (And.intro v1 ⟨_, rfl, And.intro v1 ⟨_, rfl, And.intro (fun _ => nx _ h) (fun z => absurd c1 z)⟩⟩)
    · -- look
      obtain ⟨c1, c2, c3⟩ := look_ok h (xs (nI i + 1).toNatClampNeg) (xs (nI i + 2).toNatClampNeg)
      exact hY 11 _ _ _ (And.intro v1 (And.intro v2 ⟨_, _, rfl, c2, And.intro v1 (And.intro v2 ⟨_, _, rfl, c3, And.intro (fun _ => nx _ h) (fun z => absurd c1 z)⟩)⟩))
