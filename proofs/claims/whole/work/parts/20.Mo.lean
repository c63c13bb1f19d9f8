def C_Mo_within : rz_C := fun As μ P => ∃ v l t : Int32, As = [.int v, .int l, .int t] ∧ P (some (.int (b2 (¬ v < l ∧ ¬ t < v)))) μ
def bk_Mo_within : Nat → List rz_T := fun b => match b with
  | 0 => [tz_iload 0, tz_iload 1, tz_icmp_lt 1, tz_iload 0, tz_iload 2, tz_icmp_gt 1, tz_iconst 1, tz_goto 2]
  | 1 => [tz_iconst 0, tz_fall 2]
  | 2 => [tz_zret]
  | _ => []
def bp_Mo_within : Nat → Nat := fun b => match b with
  | 0 => 0
  | 1 => 14
  | 2 => 15
  | _ => 0
set_option maxRecDepth 100000 in
set_option maxHeartbeats 4000000 in
theorem sd_Mo_within (X : rz_X) (G : rz_Cx CL X c_Mo_within 3 rz_tbl R_Mo ({ frames := 0, cells := 0, slots := 0, locals := 0 })) : ∀ b, rz_SB SH CL X bp_Mo_within (rz_RI SH CL X c_Mo_within (fun v => narrow .boolean (.int v) = .int v)) (bk_Mo_within b) (bp_Mo_within b) := fun b => match b with
  | 0 => (rz_cons (rz_iload_n G d_Mo_within_0 rfl) (rz_cons (rz_iload_n G d_Mo_within_1 rfl) (rz_cons (rz_icmp_lt G d_Mo_within_2 (by decide)) (rz_cons (rz_iload_n G d_Mo_within_5 rfl) (rz_cons (rz_iload_n G d_Mo_within_6 rfl) (rz_cons (rz_icmp_gt G d_Mo_within_7 (by decide)) (rz_cons (rz_iconst G d_Mo_within_10 (by decide)) (rz_cons (rz_goto (npc := 0) G d_Mo_within_11 (by decide)) rz_nil))))))))
  | 1 => (rz_cons (rz_iconst G d_Mo_within_14 (by decide)) (rz_fall rfl))
  | 2 => (rz_cons (rz_zret (npc := 0) (by rintro v (rfl | rfl) <;> rfl) d_Mo_within_15) rz_nil)
  | _ + 3 => rz_nil
set_option maxRecDepth 100000 in
set_option maxHeartbeats 4000000 in
theorem bd_Mo_within : ∀ (Y : Nat → rz_K) (P : rz_P), (∀ b ls st μ, rz_ex P Y (bk_Mo_within b) ls st μ → Y b ls st μ) → ∀ As μ, C_Mo_within As μ P → Y 0 (rz_pad 3 (rz_ent As)) [] μ := by
  intro Y P hY As μ hC
  obtain ⟨v, l, t, rfl, hC⟩ := hC
  refine hY 0 _ _ _ (And.intro (fun h => hY 1 _ _ _ (hY 2 _ _ _ (pF hC (fun q => q.1 h)))) (fun h => And.intro (fun h2 => hY 1 _ _ _ (hY 2 _ _ _ (pF hC (fun q => q.2 h2)))) (fun h2 => hY 2 _ _ _ (pT hC ⟨h, h2⟩))))
theorem m_Mo_within (E : rz_E) : rz_MI SH CL E y_Mo_within 3 (Cond.code y_Mo_within c_Mo_within 3 (some .boolean) :: rz_tbl) ({ frames := 0, cells := 0, slots := 0, locals := 0 }) C_Mo_within := rz_metI (by decide) rfl (fun X _ G => sd_Mo_within X G) bd_Mo_within
theorem cd_Mo_within : rz_Cd rz_tbl y_Mo_within c_Mo_within 3 (some .boolean) (Cond.code y_Mo_within c_Mo_within 3 (some .boolean) :: rz_tbl) 3 ({ frames := 0, cells := 0, slots := 0, locals := 0 }) := ⟨rz_good wd_737, ⟨_, rfl⟩, wd_47, by decide +kernel, rfl, rfl⟩
def C_Mo_tear : rz_C := fun As μ P => ∃ n : Int32, As = [.ref 19, .int n] ∧ PQ P (if ¬ n < -1 ∧ ¬ 200 < n then (μ 19 12, rz_up μ 19 12 n) else (-1, μ))
def bk_Mo_tear : Nat → List rz_T := fun b => match b with
  | 0 => [tz_iload 1, tz_iconst (-1), tz_sipush 200, tz_cs 3 3 C_Mo_within, tz_if_ne 1, tz_iconst (-1), tz_iret]
  | 1 => [tz_aload 0, tz_get SH 7 12, tz_istore 2, tz_aload 0, tz_iload 1, tz_put SH 7 12, tz_iload 2, tz_iret]
  | _ => []
def bp_Mo_tear : Nat → Nat := fun b => match b with
  | 0 => 0
  | 1 => 13
  | _ => 0
set_option maxRecDepth 100000 in
set_option maxHeartbeats 4000000 in
theorem sd_Mo_tear (X : rz_X) (G : rz_Cx CL X c_Mo_tear 3 rz_tbl R_Mo ({ frames := 1, cells := 0, slots := 0, locals := 22 })) : ∀ b, rz_SB SH CL X bp_Mo_tear (rz_RI SH CL X c_Mo_tear (fun v => narrow .int (.int v) = .int v)) (bk_Mo_tear b) (bp_Mo_tear b) := fun b => match b with
  | 0 => (rz_cons (rz_iload_n G d_Mo_tear_0 rfl) (rz_cons (rz_iconst G d_Mo_tear_1 (by decide)) (rz_cons (rz_sipush G d_Mo_tear_2 (by decide)) (rz_cons (rz_csi G (m_Mo_within X.1) cd_Mo_within wd_735 wd_736 (by decide) d_Mo_tear_5) (rz_cons (rz_if_ne G d_Mo_tear_8 (by decide)) (rz_cons (rz_iconst G d_Mo_tear_11 (by decide)) (rz_cons (rz_iret (npc := 0) (fun _ => rfl) d_Mo_tear_12) rz_nil)))))))
  | 1 => (rz_cons (rz_aload_n G d_Mo_tear_13 rfl) (rz_cons (rz_get G rfl in_Mo (by decide) wd_631 d_Mo_tear_14) (rz_cons (rz_istore_n G d_Mo_tear_17 rfl (by decide)) (rz_cons (rz_aload_n G d_Mo_tear_18 rfl) (rz_cons (rz_iload_n G d_Mo_tear_19 rfl) (rz_cons (rz_put G rfl in_Mo ty_Mo tyok_Mo nm_Mo (by decide) rfl (by decide +kernel) wd_631 d_Mo_tear_20) (rz_cons (rz_iload_n G d_Mo_tear_23 rfl) (rz_cons (rz_iret (npc := 0) (fun _ => rfl) d_Mo_tear_24) rz_nil))))))))
  | _ + 2 => rz_nil
set_option maxRecDepth 100000 in
set_option maxHeartbeats 4000000 in
theorem bd_Mo_tear : ∀ (Y : Nat → rz_K) (P : rz_P), (∀ b ls st μ, rz_ex P Y (bk_Mo_tear b) ls st μ → Y b ls st μ) → ∀ As μ, C_Mo_tear As μ P → Y 0 (rz_pad 3 (rz_ent As)) [] μ := by
  intro Y P hY As μ hC
  obtain ⟨n, rfl, hC⟩ := hC
  exact hY 0 _ _ _ ⟨_, _, _, rfl, And.intro (fun h => hY 1 _ _ _ (rzT (PQ P) (b2_ne h) hC)) (fun h => rzF (PQ P) (b2_eq h) hC)⟩
theorem m_Mo_tear (E : rz_E) : rz_MI SH CL E y_Mo_tear 3 (Cond.code y_Mo_tear c_Mo_tear 3 (some .int) :: rz_tbl) ({ frames := 1, cells := 0, slots := 0, locals := 22 }) C_Mo_tear := rz_metI (by decide) rfl (fun X _ G => sd_Mo_tear X G) bd_Mo_tear
theorem cd_Mo_tear : rz_Cd rz_tbl y_Mo_tear c_Mo_tear 3 (some .int) (Cond.code y_Mo_tear c_Mo_tear 3 (some .int) :: rz_tbl) 1 ({ frames := 1, cells := 0, slots := 0, locals := 22 }) := ⟨rz_good wd_742, ⟨_, rfl⟩, wd_47, by decide +kernel, rfl, rfl⟩
def g_w (μ : rz_M) : rz_M := if ¬ μ 19 12 = 0 then rz_up (if μ 19 12 ≤ 0 then μ else rz_up μ 19 12 (μ 19 12 - 1)) 19 9 (μ 19 9 + 1) else rz_up (rz_up (rz_up (rz_up μ 19 12 (-1)) 19 10 (μ 19 10 + 1)) 19 17 0) 19 34 0
def C_Mo_writes : rz_C := fun As μ P => As = [.ref 19] ∧ P (some (.int (b2 (¬ μ 19 12 = 0)))) (g_w μ)
def bk_Mo_writes : Nat → List rz_T := fun b => match b with
  | 0 => [tz_aload 0, tz_get SH 7 12, tz_if_ne 1, tz_aload 0, tz_iconst (-1), tz_put SH 7 12, tz_aload 0, tz_dup, tz_get SH 7 10, tz_iconst 1, tz_iadd, tz_put SH 7 10, tz_aload 0, tz_iconst 0, tz_putz SH 7 17, tz_aload 0, tz_iconst 0, tz_put SH 7 34, tz_iconst 0, tz_zret]
  | 1 => [tz_aload 0, tz_get SH 7 12, tz_if_le 2, tz_aload 0, tz_dup, tz_get SH 7 12, tz_iconst 1, tz_isub, tz_put SH 7 12, tz_fall 2]
  | 2 => [tz_aload 0, tz_dup, tz_get SH 7 9, tz_iconst 1, tz_iadd, tz_put SH 7 9, tz_iconst 1, tz_zret]
  | _ => []
def bp_Mo_writes : Nat → Nat := fun b => match b with
  | 0 => 0
  | 1 => 34
  | 2 => 51
  | _ => 0
set_option maxRecDepth 100000 in
set_option maxHeartbeats 4000000 in
theorem sd_Mo_writes (X : rz_X) (G : rz_Cx CL X c_Mo_writes 1 rz_tbl R_Mo ({ frames := 0, cells := 0, slots := 0, locals := 0 })) : ∀ b, rz_SB SH CL X bp_Mo_writes (rz_RI SH CL X c_Mo_writes (fun v => narrow .boolean (.int v) = .int v)) (bk_Mo_writes b) (bp_Mo_writes b) := fun b => match b with
  | 0 => (rz_cons (rz_aload_n G d_Mo_writes_0 rfl) (rz_cons (rz_get G rfl in_Mo (by decide) wd_631 d_Mo_writes_1) (rz_cons (rz_if_ne G d_Mo_writes_4 (by decide)) (rz_cons (rz_aload_n G d_Mo_writes_7 rfl) (rz_cons (rz_iconst G d_Mo_writes_8 (by decide)) (rz_cons (rz_put G rfl in_Mo ty_Mo tyok_Mo nm_Mo (by decide) rfl (by decide +kernel) wd_631 d_Mo_writes_9) (rz_cons (rz_aload_n G d_Mo_writes_12 rfl) (rz_cons (rz_dup G d_Mo_writes_13) (rz_cons (rz_get G rfl in_Mo (by decide) wd_629 d_Mo_writes_14) (rz_cons (rz_iconst G d_Mo_writes_17 (by decide)) (rz_cons (rz_iadd G d_Mo_writes_18) (rz_cons (rz_put G rfl in_Mo ty_Mo tyok_Mo nm_Mo (by decide) rfl (by decide +kernel) wd_629 d_Mo_writes_19) (rz_cons (rz_aload_n G d_Mo_writes_22 rfl) (rz_cons (rz_iconst G d_Mo_writes_23 (by decide)) (rz_cons (rz_putz G rfl in_Mo ty_Mo tyok_Mo nm_Mo (by decide) rfl (by decide +kernel) wd_636 d_Mo_writes_24) (rz_cons (rz_aload_n G d_Mo_writes_27 rfl) (rz_cons (rz_iconst G d_Mo_writes_28 (by decide)) (rz_cons (rz_put G rfl in_Mo ty_Mo tyok_Mo nm_Mo (by decide) rfl (by decide +kernel) wd_653 d_Mo_writes_29) (rz_cons (rz_iconst G d_Mo_writes_32 (by decide)) (rz_cons (rz_zret (npc := 0) (by rintro v (rfl | rfl) <;> rfl) d_Mo_writes_33) rz_nil))))))))))))))))))))
  | 1 => (rz_cons (rz_aload_n G d_Mo_writes_34 rfl) (rz_cons (rz_get G rfl in_Mo (by decide) wd_631 d_Mo_writes_35) (rz_cons (rz_if_le G d_Mo_writes_38 (by decide)) (rz_cons (rz_aload_n G d_Mo_writes_41 rfl) (rz_cons (rz_dup G d_Mo_writes_42) (rz_cons (rz_get G rfl in_Mo (by decide) wd_631 d_Mo_writes_43) (rz_cons (rz_iconst G d_Mo_writes_46 (by decide)) (rz_cons (rz_isub G d_Mo_writes_47) (rz_cons (rz_put G rfl in_Mo ty_Mo tyok_Mo nm_Mo (by decide) rfl (by decide +kernel) wd_631 d_Mo_writes_48) (rz_fall rfl))))))))))
  | 2 => (rz_cons (rz_aload_n G d_Mo_writes_51 rfl) (rz_cons (rz_dup G d_Mo_writes_52) (rz_cons (rz_get G rfl in_Mo (by decide) wd_628 d_Mo_writes_53) (rz_cons (rz_iconst G d_Mo_writes_56 (by decide)) (rz_cons (rz_iadd G d_Mo_writes_57) (rz_cons (rz_put G rfl in_Mo ty_Mo tyok_Mo nm_Mo (by decide) rfl (by decide +kernel) wd_628 d_Mo_writes_58) (rz_cons (rz_iconst G d_Mo_writes_61 (by decide)) (rz_cons (rz_zret (npc := 0) (by rintro v (rfl | rfl) <;> rfl) d_Mo_writes_62) rz_nil))))))))
  | _ + 3 => rz_nil
set_option maxRecDepth 100000 in
set_option maxHeartbeats 4000000 in
theorem bd_Mo_writes : ∀ (Y : Nat → rz_K) (P : rz_P), (∀ b ls st μ, rz_ex P Y (bk_Mo_writes b) ls st μ → Y b ls st μ) → ∀ As μ, C_Mo_writes As μ P → Y 0 (rz_pad 1 (rz_ent As)) [] μ := by
  intro Y P hY As μ hC
  obtain ⟨rfl, hC⟩ := hC
  unfold g_w at hC
  refine hY 0 _ _ _ (And.intro (fun (h : ¬ μ 19 12 = 0) => ?_) (fun (h : μ 19 12 = 0) => ?_))
  · rw [if_pos h] at hC
    refine hY _ _ _ _ (And.intro (fun (h2 : μ 19 12 ≤ 0) => ?_) (fun (h2 : ¬ μ 19 12 ≤ 0) => ?_))
    · rw [if_pos h2] at hC
      exact hY _ _ _ _ (pT hC h)
    · rw [if_neg h2] at hC
      exact hY _ _ _ _ (pT hC h)
  · rw [if_neg (fun q => q h)] at hC
    exact And.intro (Or.inl rfl) (pF hC (fun q => q h))
theorem m_Mo_writes (E : rz_E) : rz_MI SH CL E y_Mo_writes 1 (Cond.code y_Mo_writes c_Mo_writes 1 (some .boolean) :: rz_tbl) ({ frames := 0, cells := 0, slots := 0, locals := 0 }) C_Mo_writes := rz_metI (by decide) rfl (fun X _ G => sd_Mo_writes X G) bd_Mo_writes
theorem cd_Mo_writes : rz_Cd rz_tbl y_Mo_writes c_Mo_writes 1 (some .boolean) (Cond.code y_Mo_writes c_Mo_writes 1 (some .boolean) :: rz_tbl) 0 ({ frames := 0, cells := 0, slots := 0, locals := 0 }) := ⟨rz_good wd_754, ⟨_, rfl⟩, wd_47, by decide +kernel, rfl, rfl⟩
theorem g_w_ne {μ : rz_M} {k : Nat} (h : k ≠ 19) : g_w μ k = μ k := by
  unfold g_w
  split
  · split
    · exact rz_up_k h
    · rw [rz_up_k h, rz_up_k h]
  · rw [rz_up_k h, rz_up_k h, rz_up_k h, rz_up_k h]
theorem g_w_19 {μ : rz_M} {j : Nat} (h9 : j ≠ 9) (h10 : j ≠ 10) (h12 : j ≠ 12) (h17 : j ≠ 17) (h34 : j ≠ 34) : g_w μ 19 j = μ 19 j := by
  unfold g_w
  split
  · split
    · exact rz_up_j h9
    · rw [rz_up_j h9, rz_up_j h12]
  · rw [rz_up_j h34, rz_up_j h17, rz_up_j h10, rz_up_j h12]
def g_seL : Nat → Nat → rz_M → Int32 × rz_M
  | 0, _, μ => if μ 19 12 = 0 then (0, g_w μ) else (1, rz_up (g_w μ) 19 16 0)
  | d + 1, i, μ => if μ 19 12 = 0 then (0, g_w μ) else g_seL d (i + 1) (rz_up (g_w μ) 25 (24 * μ 19 14 + μ 19 15 + nI i).toNatClampNeg (μ 26 i))
theorem g_seL_01 : ∀ (d i : Nat) (μ : rz_M), (g_seL d i μ).1 = 0 ∨ (g_seL d i μ).1 = 1
  | 0, i, μ => by
    unfold g_seL
    split
    · exact Or.inl rfl
    · exact Or.inr rfl
  | d + 1, i, μ => by
    unfold g_seL
    split
    · exact Or.inl rfl
    · exact g_seL_01 d (i + 1) _
def C_Mo_settle : rz_C := fun As μ P => ∃ n f p : Nat, As = [.ref 19] ∧ μ 19 16 = nI n ∧ μ 19 14 = nI f ∧ μ 19 15 = nI p ∧ f < 8 ∧ p + n ≤ 24 ∧ P (some (.int (g_seL n 0 μ).1)) (g_seL n 0 μ).2
def bk_Mo_settle : Nat → List rz_T := fun b => match b with
  | 0 => [tz_iconst 0, tz_istore 1, tz_fall 1]
  | 1 => [tz_iload 1, tz_aload 0, tz_get SH 7 16, tz_icmp_ge 3, tz_aload 0, tz_cv SH 0 7 1 C_Mo_writes, tz_istore 2, tz_iload 2, tz_if_ne 2, tz_iconst 0, tz_zret]
  | 2 => [tz_aload 0, tz_get SH 7 5, tz_bipush 24, tz_aload 0, tz_get SH 7 14, tz_imul, tz_aload 0, tz_get SH 7 15, tz_iadd, tz_iload 1, tz_iadd, tz_aload 0, tz_get SH 7 13, tz_iload 1, tz_iald SH, tz_iast SH, tz_iinc 1 1, tz_goto 1]
  | 3 => [tz_aload 0, tz_cv SH 0 7 1 C_Mo_writes, tz_istore 1, tz_iload 1, tz_if_eq 4, tz_aload 0, tz_iconst 0, tz_put SH 7 16, tz_fall 4]
  | 4 => [tz_iload 1, tz_zret]
  | _ => []
def bp_Mo_settle : Nat → Nat := fun b => match b with
  | 0 => 0
  | 1 => 2
  | 2 => 21
  | 3 => 52
  | 4 => 66
  | _ => 0
set_option maxRecDepth 100000 in
set_option maxHeartbeats 4000000 in
theorem sd_Mo_settle (X : rz_X) (G : rz_Cx CL X c_Mo_settle 3 rz_tbl R_Mo ({ frames := 1, cells := 0, slots := 0, locals := 20 })) : ∀ b, rz_SB SH CL X bp_Mo_settle (rz_RI SH CL X c_Mo_settle (fun v => narrow .boolean (.int v) = .int v)) (bk_Mo_settle b) (bp_Mo_settle b) := fun b => match b with
  | 0 => (rz_cons (rz_iconst G d_Mo_settle_0 (by decide)) (rz_cons (rz_istore_n G d_Mo_settle_1 rfl (by decide)) (rz_fall rfl)))
  | 1 => (rz_cons (rz_iload_n G d_Mo_settle_2 rfl) (rz_cons (rz_aload_n G d_Mo_settle_3 rfl) (rz_cons (rz_get G rfl in_Mo (by decide) wd_635 d_Mo_settle_4) (rz_cons (rz_icmp_ge G d_Mo_settle_7 (by decide)) (rz_cons (rz_aload_n G d_Mo_settle_10 rfl) (rz_cons (rz_cvi G (m_Mo_writes X.1) cd_Mo_writes wd_751 wd_753 wd_20 rfl rfl (by decide) d_Mo_settle_11) (rz_cons (rz_istore_n G d_Mo_settle_14 rfl (by decide)) (rz_cons (rz_iload_n G d_Mo_settle_15 rfl) (rz_cons (rz_if_ne G d_Mo_settle_16 (by decide)) (rz_cons (rz_iconst G d_Mo_settle_19 (by decide)) (rz_cons (rz_zret (npc := 0) (by rintro v (rfl | rfl) <;> rfl) d_Mo_settle_20) rz_nil)))))))))))
  | 2 => (rz_cons (rz_aload_n G d_Mo_settle_21 rfl) (rz_cons (rz_get G rfl in_Mo (by decide) wd_624 d_Mo_settle_22) (rz_cons (rz_bipush G d_Mo_settle_25 (by decide)) (rz_cons (rz_aload_n G d_Mo_settle_27 rfl) (rz_cons (rz_get G rfl in_Mo (by decide) wd_633 d_Mo_settle_28) (rz_cons (rz_imul G d_Mo_settle_31) (rz_cons (rz_aload_n G d_Mo_settle_32 rfl) (rz_cons (rz_get G rfl in_Mo (by decide) wd_634 d_Mo_settle_33) (rz_cons (rz_iadd G d_Mo_settle_36) (rz_cons (rz_iload_n G d_Mo_settle_37 rfl) (rz_cons (rz_iadd G d_Mo_settle_38) (rz_cons (rz_aload_n G d_Mo_settle_39 rfl) (rz_cons (rz_get G rfl in_Mo (by decide) wd_632 d_Mo_settle_40) (rz_cons (rz_iload_n G d_Mo_settle_43 rfl) (rz_cons (rz_iald G d_Mo_settle_44) (rz_cons (rz_iast G d_Mo_settle_45) (rz_cons (rz_iinc G d_Mo_settle_46 (by decide) (by decide)) (rz_cons (rz_goto (npc := 0) G d_Mo_settle_49 (by decide)) rz_nil))))))))))))))))))
  | 3 => (rz_cons (rz_aload_n G d_Mo_settle_52 rfl) (rz_cons (rz_cvi G (m_Mo_writes X.1) cd_Mo_writes wd_751 wd_753 wd_20 rfl rfl (by decide) d_Mo_settle_53) (rz_cons (rz_istore_n G d_Mo_settle_56 rfl (by decide)) (rz_cons (rz_iload_n G d_Mo_settle_57 rfl) (rz_cons (rz_if_eq G d_Mo_settle_58 (by decide)) (rz_cons (rz_aload_n G d_Mo_settle_61 rfl) (rz_cons (rz_iconst G d_Mo_settle_62 (by decide)) (rz_cons (rz_put G rfl in_Mo ty_Mo tyok_Mo nm_Mo (by decide) rfl (by decide +kernel) wd_635 d_Mo_settle_63) (rz_fall rfl)))))))))
  | 4 => (rz_cons (rz_iload_n G d_Mo_settle_66 rfl) (rz_cons (rz_zret (npc := 0) (by rintro v (rfl | rfl) <;> rfl) d_Mo_settle_67) rz_nil))
  | _ + 5 => rz_nil
set_option maxRecDepth 100000 in
set_option maxHeartbeats 4000000 in
theorem bd_Mo_settle : ∀ (Y : Nat → rz_K) (P : rz_P), (∀ b ls st μ, rz_ex P Y (bk_Mo_settle b) ls st μ → Y b ls st μ) → ∀ As μ, C_Mo_settle As μ P → Y 0 (rz_pad 3 (rz_ent As)) [] μ := by
  intro Y P hY As μ hC
  obtain ⟨n, f, p, rfl, hn, hf, hp, hf8, hpn, hC⟩ := hC
  have loop : ∀ (d i : Nat) (x : Option Value) (ν : rz_M), i + d = n → ν 19 16 = nI n → ν 19 14 = nI f → ν 19 15 = nI p → P (some (.int (g_seL d i ν).1)) (g_seL d i ν).2 → Y 1 [some (.ref 19), some (.int (nI i)), x] [] ν := by
    intro d
    induction d with
    | zero =>
      intro i x ν hi h16 _ _ hq
      have : i = n := by omega
      subst this
      refine hY 1 _ _ _ (And.intro (fun _ => ?_) (fun h => absurd ?_ h))
      · refine hY 3 _ _ _ (And.intro rfl (And.intro (fun h => ?_) (fun h => ?_)))
        · have h0 : ν 19 12 = 0 := Decidable.not_not.mp (b2_eq h)
          rw [g_seL, if_pos h0] at hq
          refine hY 4 _ _ _ (And.intro (b2_01 _) ?_)
          rw [h]; exact hq
        · have h0 := b2_ne h
          rw [g_seL, if_neg h0] at hq
          refine hY 4 _ _ _ (And.intro (b2_01 _) ?_)
          rw [b2_pos h0]; exact hq
      · show ν 19 16 ≤ nI i
        rw [h16]; exact Int32.le_refl _
    | succ d ih =>
      intro i x ν hi h16 h14 h15 hq
      refine hY 1 _ _ _ (And.intro (fun (h : ν 19 16 ≤ nI i) => absurd h ?_) (fun _ => And.intro rfl (And.intro (fun h => ?_) (fun h => ?_))))
      · rw [h16]; exact nI_ge (by omega) (by omega)
      · have h0 := b2_ne h
        rw [g_seL, if_neg h0] at hq
        have e14 : g_w ν 19 14 = ν 19 14 := g_w_19 (by decide) (by decide) (by decide) (by decide) (by decide)
        have e15 : g_w ν 19 15 = ν 19 15 := g_w_19 (by decide) (by decide) (by decide) (by decide) (by decide)
        have e16 : g_w ν 19 16 = ν 19 16 := g_w_19 (by decide) (by decide) (by decide) (by decide) (by decide)
        have e26 : g_w ν 26 = ν 26 := g_w_ne (by decide)
        have ix : 24 * ν 19 14 + ν 19 15 + nI i = nI (24 * f + p + i) := by
          rw [h14, h15, show (24 : Int32) = nI 24 from rfl, pk_mul, nI_add, nI_add]
        refine hY 2 _ _ _ (And.intro (vp_in_nI (by omega) (by omega)) (And.intro ?_ ?_))
        · show vp_in (24 * g_w ν 19 14 + g_w ν 19 15 + nI i) 192
          rw [e14, e15, ix]; exact vp_in_nI (by omega) (by omega)
        · have := ih (i + 1) (some (.int (b2 (¬ ν 19 12 = 0)))) _ (by omega) (by rw [rz_up_k (by decide), e16]; exact h16) (by rw [rz_up_k (by decide), e14]; exact h14) (by rw [rz_up_k (by decide), e15]; exact h15) hq
          rw [nI_succ] at this
          rw [nI_clamp (by omega), e26, e14, e15]
          exact this
      · have h0 : ν 19 12 = 0 := Decidable.not_not.mp (b2_eq h)
        rw [g_seL, if_pos h0] at hq
        exact And.intro (Or.inl rfl) hq
  exact hY 0 _ _ _ (loop n 0 none μ (by omega) hn hf hp hC)
theorem m_Mo_settle (E : rz_E) : rz_MI SH CL E y_Mo_settle 3 (Cond.code y_Mo_settle c_Mo_settle 3 (some .boolean) :: rz_tbl) ({ frames := 1, cells := 0, slots := 0, locals := 20 }) C_Mo_settle := rz_metI (by decide) rfl (fun X _ G => sd_Mo_settle X G) bd_Mo_settle
theorem cd_Mo_settle : rz_Cd rz_tbl y_Mo_settle c_Mo_settle 3 (some .boolean) (Cond.code y_Mo_settle c_Mo_settle 3 (some .boolean) :: rz_tbl) 0 ({ frames := 1, cells := 0, slots := 0, locals := 20 }) := ⟨rz_good wd_750, ⟨_, rfl⟩, wd_47, by decide +kernel, rfl, rfl⟩
def g_forget (μ : rz_M) : rz_M := rz_up (rz_up (rz_up (rz_up μ 19 31 0) 19 19 0) 19 32 0) 19 33 0
def C_Mo_forget : rz_C := fun As μ P => As = [.ref 19] ∧ P none (g_forget μ)
def bk_Mo_forget : Nat → List rz_T := fun b => match b with
  | 0 => [tz_aload 0, tz_iconst 0, tz_put SH 7 31, tz_aload 0, tz_iconst 0, tz_putz SH 7 19, tz_aload 0, tz_iconst 0, tz_put SH 7 32, tz_aload 0, tz_iconst 0, tz_put SH 7 33, tz_vret]
  | _ => []
def bp_Mo_forget : Nat → Nat := fun b => match b with
  | 0 => 0
  | _ => 0
set_option maxRecDepth 100000 in
set_option maxHeartbeats 4000000 in
theorem sd_Mo_forget (X : rz_X) (G : rz_Cx CL X c_Mo_forget 1 rz_tbl R_Mo ({ frames := 0, cells := 0, slots := 0, locals := 0 })) : ∀ b, rz_SB SH CL X bp_Mo_forget (rz_RV SH CL X c_Mo_forget) (bk_Mo_forget b) (bp_Mo_forget b) := fun b => match b with
  | 0 => (rz_cons (rz_aload_n G d_Mo_forget_0 rfl) (rz_cons (rz_iconst G d_Mo_forget_1 (by decide)) (rz_cons (rz_put G rfl in_Mo ty_Mo tyok_Mo nm_Mo (by decide) rfl (by decide +kernel) wd_650 d_Mo_forget_2) (rz_cons (rz_aload_n G d_Mo_forget_5 rfl) (rz_cons (rz_iconst G d_Mo_forget_6 (by decide)) (rz_cons (rz_putz G rfl in_Mo ty_Mo tyok_Mo nm_Mo (by decide) rfl (by decide +kernel) wd_638 d_Mo_forget_7) (rz_cons (rz_aload_n G d_Mo_forget_10 rfl) (rz_cons (rz_iconst G d_Mo_forget_11 (by decide)) (rz_cons (rz_put G rfl in_Mo ty_Mo tyok_Mo nm_Mo (by decide) rfl (by decide +kernel) wd_651 d_Mo_forget_12) (rz_cons (rz_aload_n G d_Mo_forget_15 rfl) (rz_cons (rz_iconst G d_Mo_forget_16 (by decide)) (rz_cons (rz_put G rfl in_Mo ty_Mo tyok_Mo nm_Mo (by decide) rfl (by decide +kernel) wd_652 d_Mo_forget_17) (rz_cons (rz_vret (npc := 0) d_Mo_forget_20) rz_nil)))))))))))))
  | _ + 1 => rz_nil
set_option maxRecDepth 100000 in
set_option maxHeartbeats 4000000 in
theorem bd_Mo_forget : ∀ (Y : Nat → rz_K) (P : rz_P), (∀ b ls st μ, rz_ex P Y (bk_Mo_forget b) ls st μ → Y b ls st μ) → ∀ As μ, C_Mo_forget As μ P → Y 0 (rz_pad 1 (rz_ent As)) [] μ := by
  intro Y P hY As μ hC
  obtain ⟨rfl, hC⟩ := hC
  exact hY 0 _ _ _ (And.intro (Or.inl rfl) hC)
theorem m_Mo_forget (E : rz_E) : rz_MV SH CL E y_Mo_forget 1 (Cond.code y_Mo_forget c_Mo_forget 1 none :: rz_tbl) ({ frames := 0, cells := 0, slots := 0, locals := 0 }) C_Mo_forget := rz_metV (by decide) rfl (fun X _ G => sd_Mo_forget X G) bd_Mo_forget
theorem cd_Mo_forget : rz_Cd rz_tbl y_Mo_forget c_Mo_forget 1 none (Cond.code y_Mo_forget c_Mo_forget 1 none :: rz_tbl) 0 ({ frames := 0, cells := 0, slots := 0, locals := 0 }) := ⟨rz_good wd_762, ⟨_, rfl⟩, wd_47, by decide +kernel, rfl, rfl⟩
def g_begin (μ : rz_M) : rz_M := g_forget (rz_up (rz_up (rz_up μ 19 22 0) 19 23 0) 19 35 0)
def C_Mo_begin : rz_C := fun As μ P => As = [.ref 19] ∧ P none (g_begin μ)
def bk_Mo_begin : Nat → List rz_T := fun b => match b with
  | 0 => [tz_aload 0, tz_iconst 0, tz_put SH 7 22, tz_aload 0, tz_iconst 0, tz_put SH 7 23, tz_aload 0, tz_iconst 0, tz_put SH 7 35, tz_aload 0, tz_cv SH 0 7 1 C_Mo_forget, tz_vret]
  | _ => []
def bp_Mo_begin : Nat → Nat := fun b => match b with
  | 0 => 0
  | _ => 0
set_option maxRecDepth 100000 in
set_option maxHeartbeats 4000000 in
theorem sd_Mo_begin (X : rz_X) (G : rz_Cx CL X c_Mo_begin 1 rz_tbl R_Mo ({ frames := 1, cells := 0, slots := 0, locals := 20 })) : ∀ b, rz_SB SH CL X bp_Mo_begin (rz_RV SH CL X c_Mo_begin) (bk_Mo_begin b) (bp_Mo_begin b) := fun b => match b with
  | 0 => (rz_cons (rz_aload_n G d_Mo_begin_0 rfl) (rz_cons (rz_iconst G d_Mo_begin_1 (by decide)) (rz_cons (rz_put G rfl in_Mo ty_Mo tyok_Mo nm_Mo (by decide) rfl (by decide +kernel) wd_641 d_Mo_begin_2) (rz_cons (rz_aload_n G d_Mo_begin_5 rfl) (rz_cons (rz_iconst G d_Mo_begin_6 (by decide)) (rz_cons (rz_put G rfl in_Mo ty_Mo tyok_Mo nm_Mo (by decide) rfl (by decide +kernel) wd_642 d_Mo_begin_7) (rz_cons (rz_aload_n G d_Mo_begin_10 rfl) (rz_cons (rz_iconst G d_Mo_begin_11 (by decide)) (rz_cons (rz_put G rfl in_Mo ty_Mo tyok_Mo nm_Mo (by decide) rfl (by decide +kernel) wd_654 d_Mo_begin_12) (rz_cons (rz_aload_n G d_Mo_begin_15 rfl) (rz_cons (rz_cvv G (m_Mo_forget X.1) cd_Mo_forget wd_759 wd_761 wd_22 rfl rfl (by decide) d_Mo_begin_16) (rz_cons (rz_vret (npc := 0) d_Mo_begin_19) rz_nil))))))))))))
  | _ + 1 => rz_nil
set_option maxRecDepth 100000 in
set_option maxHeartbeats 4000000 in
theorem bd_Mo_begin : ∀ (Y : Nat → rz_K) (P : rz_P), (∀ b ls st μ, rz_ex P Y (bk_Mo_begin b) ls st μ → Y b ls st μ) → ∀ As μ, C_Mo_begin As μ P → Y 0 (rz_pad 1 (rz_ent As)) [] μ := by
  intro Y P hY As μ hC
  obtain ⟨rfl, hC⟩ := hC
  exact hY 0 _ _ _ (And.intro rfl hC)
theorem m_Mo_begin (E : rz_E) : rz_MV SH CL E y_Mo_begin 1 (Cond.code y_Mo_begin c_Mo_begin 1 none :: rz_tbl) ({ frames := 1, cells := 0, slots := 0, locals := 20 }) C_Mo_begin := rz_metV (by decide) rfl (fun X _ G => sd_Mo_begin X G) bd_Mo_begin
theorem cd_Mo_begin : rz_Cd rz_tbl y_Mo_begin c_Mo_begin 1 none (Cond.code y_Mo_begin c_Mo_begin 1 none :: rz_tbl) 0 ({ frames := 1, cells := 0, slots := 0, locals := 20 }) := ⟨rz_good wd_758, ⟨_, rfl⟩, wd_47, by decide +kernel, rfl, rfl⟩
def g_on1 (μ : rz_M) : rz_M :=
  let b := g_begin (rz_up (rz_up (rz_up (rz_up (rz_up μ 19 18 0) 19 20 0) 19 21 (-1)) 19 24 32) 19 30 0)
  rz_up (rz_up (rz_up (rz_up (rz_up b 30 0 59) 30 1 1) 30 2 (μ 19 8)) 30 3 32) 19 34 4
def g_on (n : Nat) (μ : rz_M) : Int32 × rz_M := if μ 19 16 ≤ 0 then (1, g_on1 (rz_up μ 19 17 1)) else if ¬ (g_seL n 0 (rz_up μ 19 17 1)).1 = 0 then (1, g_on1 (g_seL n 0 (rz_up μ 19 17 1)).2) else (0, (g_seL n 0 (rz_up μ 19 17 1)).2)
def C_Mo_on : rz_C := fun As μ P => ∃ n f p : Nat, As = [.ref 19] ∧ (μ 19 16 ≤ 0 ∨ (μ 19 16 = nI n ∧ μ 19 14 = nI f ∧ μ 19 15 = nI p ∧ f < 8 ∧ p + n ≤ 24)) ∧ PQ P (g_on n μ)
def bk_Mo_on : Nat → List rz_T := fun b => match b with
  | 0 => [tz_aload 0, tz_iconst 1, tz_putz SH 7 17, tz_aload 0, tz_get SH 7 16, tz_if_le 1, tz_aload 0, tz_cv SH 0 7 3 C_Mo_settle, tz_istore 1, tz_iload 1, tz_if_ne 1, tz_iconst 0, tz_iret]
  | 1 => [tz_aload 0, tz_iconst 0, tz_putz SH 7 18, tz_aload 0, tz_iconst 0, tz_put SH 7 20, tz_aload 0, tz_iconst (-1), tz_put SH 7 21, tz_aload 0, tz_bipush 32, tz_put SH 7 24, tz_aload 0, tz_iconst 0, tz_put SH 7 30, tz_aload 0, tz_cv SH 0 7 1 C_Mo_begin, tz_aload 0, tz_get SH 7 28, tz_iconst 0, tz_bipush 59, tz_iast SH, tz_aload 0, tz_get SH 7 28, tz_iconst 1, tz_iconst 1, tz_iast SH, tz_aload 0, tz_get SH 7 28, tz_iconst 2, tz_aload 0, tz_get SH 7 8, tz_iast SH, tz_aload 0, tz_get SH 7 28, tz_iconst 3, tz_bipush 32, tz_iast SH, tz_aload 0, tz_iconst 4, tz_put SH 7 34, tz_iconst 1, tz_iret]
  | _ => []
def bp_Mo_on : Nat → Nat := fun b => match b with
  | 0 => 0
  | 1 => 23
  | _ => 0
set_option maxRecDepth 100000 in
set_option maxHeartbeats 4000000 in
theorem sd_Mo_on (X : rz_X) (G : rz_Cx CL X c_Mo_on 2 rz_tbl R_Mo ({ frames := 2, cells := 0, slots := 0, locals := 42 })) : ∀ b, rz_SB SH CL X bp_Mo_on (rz_RI SH CL X c_Mo_on (fun v => narrow .int (.int v) = .int v)) (bk_Mo_on b) (bp_Mo_on b) := fun b => match b with
  | 0 => (rz_cons (rz_aload_n G d_Mo_on_0 rfl) (rz_cons (rz_iconst G d_Mo_on_1 (by decide)) (rz_cons (rz_putz G rfl in_Mo ty_Mo tyok_Mo nm_Mo (by decide) rfl (by decide +kernel) wd_636 d_Mo_on_2) (rz_cons (rz_aload_n G d_Mo_on_5 rfl) (rz_cons (rz_get G rfl in_Mo (by decide) wd_635 d_Mo_on_6) (rz_cons (rz_if_le G d_Mo_on_9 (by decide)) (rz_cons (rz_aload_n G d_Mo_on_12 rfl) (rz_cons (rz_cvi G (m_Mo_settle X.1) cd_Mo_settle wd_747 wd_749 wd_19 rfl rfl (by decide) d_Mo_on_13) (rz_cons (rz_istore_n G d_Mo_on_16 rfl (by decide)) (rz_cons (rz_iload_n G d_Mo_on_17 rfl) (rz_cons (rz_if_ne G d_Mo_on_18 (by decide)) (rz_cons (rz_iconst G d_Mo_on_21 (by decide)) (rz_cons (rz_iret (npc := 0) (fun _ => rfl) d_Mo_on_22) rz_nil)))))))))))))
  | 1 => (rz_cons (rz_aload_n G d_Mo_on_23 rfl) (rz_cons (rz_iconst G d_Mo_on_24 (by decide)) (rz_cons (rz_putz G rfl in_Mo ty_Mo tyok_Mo nm_Mo (by decide) rfl (by decide +kernel) wd_637 d_Mo_on_25) (rz_cons (rz_aload_n G d_Mo_on_28 rfl) (rz_cons (rz_iconst G d_Mo_on_29 (by decide)) (rz_cons (rz_put G rfl in_Mo ty_Mo tyok_Mo nm_Mo (by decide) rfl (by decide +kernel) wd_639 d_Mo_on_30) (rz_cons (rz_aload_n G d_Mo_on_33 rfl) (rz_cons (rz_iconst G d_Mo_on_34 (by decide)) (rz_cons (rz_put G rfl in_Mo ty_Mo tyok_Mo nm_Mo (by decide) rfl (by decide +kernel) wd_640 d_Mo_on_35) (rz_cons (rz_aload_n G d_Mo_on_38 rfl) (rz_cons (rz_bipush G d_Mo_on_39 (by decide)) (rz_cons (rz_put G rfl in_Mo ty_Mo tyok_Mo nm_Mo (by decide) rfl (by decide +kernel) wd_643 d_Mo_on_41) (rz_cons (rz_aload_n G d_Mo_on_44 rfl) (rz_cons (rz_iconst G d_Mo_on_45 (by decide)) (rz_cons (rz_put G rfl in_Mo ty_Mo tyok_Mo nm_Mo (by decide) rfl (by decide +kernel) wd_649 d_Mo_on_46) (rz_cons (rz_aload_n G d_Mo_on_49 rfl) (rz_cons (rz_cvv G (m_Mo_begin X.1) cd_Mo_begin wd_755 wd_757 wd_21 rfl rfl (by decide) d_Mo_on_50) (rz_cons (rz_aload_n G d_Mo_on_53 rfl) (rz_cons (rz_get G rfl in_Mo (by decide) wd_647 d_Mo_on_54) (rz_cons (rz_iconst G d_Mo_on_57 (by decide)) (rz_cons (rz_bipush G d_Mo_on_58 (by decide)) (rz_cons (rz_iast G d_Mo_on_60) (rz_cons (rz_aload_n G d_Mo_on_61 rfl) (rz_cons (rz_get G rfl in_Mo (by decide) wd_647 d_Mo_on_62) (rz_cons (rz_iconst G d_Mo_on_65 (by decide)) (rz_cons (rz_iconst G d_Mo_on_66 (by decide)) (rz_cons (rz_iast G d_Mo_on_67) (rz_cons (rz_aload_n G d_Mo_on_68 rfl) (rz_cons (rz_get G rfl in_Mo (by decide) wd_647 d_Mo_on_69) (rz_cons (rz_iconst G d_Mo_on_72 (by decide)) (rz_cons (rz_aload_n G d_Mo_on_73 rfl) (rz_cons (rz_get G rfl in_Mo (by decide) wd_627 d_Mo_on_74) (rz_cons (rz_iast G d_Mo_on_77) (rz_cons (rz_aload_n G d_Mo_on_78 rfl) (rz_cons (rz_get G rfl in_Mo (by decide) wd_647 d_Mo_on_79) (rz_cons (rz_iconst G d_Mo_on_82 (by decide)) (rz_cons (rz_bipush G d_Mo_on_83 (by decide)) (rz_cons (rz_iast G d_Mo_on_85) (rz_cons (rz_aload_n G d_Mo_on_86 rfl) (rz_cons (rz_iconst G d_Mo_on_87 (by decide)) (rz_cons (rz_put G rfl in_Mo ty_Mo tyok_Mo nm_Mo (by decide) rfl (by decide +kernel) wd_653 d_Mo_on_88) (rz_cons (rz_iconst G d_Mo_on_91 (by decide)) (rz_cons (rz_iret (npc := 0) (fun _ => rfl) d_Mo_on_92) rz_nil)))))))))))))))))))))))))))))))))))))))))))
  | _ + 2 => rz_nil
set_option maxRecDepth 100000 in
set_option maxHeartbeats 4000000 in
theorem bd_Mo_on : ∀ (Y : Nat → rz_K) (P : rz_P), (∀ b ls st μ, rz_ex P Y (bk_Mo_on b) ls st μ → Y b ls st μ) → ∀ As μ, C_Mo_on As μ P → Y 0 (rz_pad 2 (rz_ent As)) [] μ := by
  intro Y P hY As μ hC
  obtain ⟨n, f, p, rfl, hn, hC⟩ := hC
  have fin : ∀ (x : Option Value) (ν : rz_M), PQ P (1, g_on1 ν) → Y 1 [some (.ref 19), x] [] ν := by
    intro x ν hp
    exact hY 1 _ _ _ (And.intro (Or.inl rfl) (And.intro rfl (And.intro (vi_c (by decide)) (And.intro (vi_c (by decide)) (And.intro (vi_c (by decide)) (And.intro (vi_c (by decide)) hp))))))
  refine hY 0 _ _ _ (And.intro (Or.inr rfl) (And.intro (fun (h : μ 19 16 ≤ 0) => ?_) (fun (h : ¬ μ 19 16 ≤ 0) => ?_)))
  · exact fin _ _ (rzT (PQ P) h hC)
  · have hC := rzF (PQ P) h hC
    obtain ⟨h16, h14, h15, f8, p24⟩ := hn.resolve_left h
    refine ⟨n, f, p, rfl, h16, h14, h15, f8, p24, And.intro (fun h => ?_) (fun h => rzN (PQ P) h hC)⟩
    exact fin _ _ (rzT (PQ P) h hC)
theorem m_Mo_on (E : rz_E) : rz_MI SH CL E y_Mo_on 2 (Cond.code y_Mo_on c_Mo_on 2 (some .int) :: rz_tbl) ({ frames := 2, cells := 0, slots := 0, locals := 42 }) C_Mo_on := rz_metI (by decide) rfl (fun X _ G => sd_Mo_on X G) bd_Mo_on
theorem cd_Mo_on : rz_Cd rz_tbl y_Mo_on c_Mo_on 2 (some .int) (Cond.code y_Mo_on c_Mo_on 2 (some .int) :: rz_tbl) 0 ({ frames := 2, cells := 0, slots := 0, locals := 42 }) := ⟨rz_good wd_746, ⟨_, rfl⟩, wd_47, by decide +kernel, rfl, rfl⟩
def g_off (μ : rz_M) : Int32 × rz_M := if ¬ μ 19 17 = 0 then (1, rz_up (rz_up μ 19 17 0) 19 34 0) else (0, μ)
def C_Mo_off : rz_C := fun As μ P => As = [.ref 19] ∧ PQ P (g_off μ)
def bk_Mo_off : Nat → List rz_T := fun b => match b with
  | 0 => [tz_aload 0, tz_get SH 7 17, tz_if_ne 1, tz_iconst 0, tz_iret]
  | 1 => [tz_aload 0, tz_iconst 0, tz_putz SH 7 17, tz_aload 0, tz_iconst 0, tz_put SH 7 34, tz_iconst 1, tz_iret]
  | _ => []
def bp_Mo_off : Nat → Nat := fun b => match b with
  | 0 => 0
  | 1 => 9
  | _ => 0
set_option maxRecDepth 100000 in
set_option maxHeartbeats 4000000 in
theorem sd_Mo_off (X : rz_X) (G : rz_Cx CL X c_Mo_off 1 rz_tbl R_Mo ({ frames := 0, cells := 0, slots := 0, locals := 0 })) : ∀ b, rz_SB SH CL X bp_Mo_off (rz_RI SH CL X c_Mo_off (fun v => narrow .int (.int v) = .int v)) (bk_Mo_off b) (bp_Mo_off b) := fun b => match b with
  | 0 => (rz_cons (rz_aload_n G d_Mo_off_0 rfl) (rz_cons (rz_get G rfl in_Mo (by decide) wd_636 d_Mo_off_1) (rz_cons (rz_if_ne G d_Mo_off_4 (by decide)) (rz_cons (rz_iconst G d_Mo_off_7 (by decide)) (rz_cons (rz_iret (npc := 0) (fun _ => rfl) d_Mo_off_8) rz_nil)))))
  | 1 => (rz_cons (rz_aload_n G d_Mo_off_9 rfl) (rz_cons (rz_iconst G d_Mo_off_10 (by decide)) (rz_cons (rz_putz G rfl in_Mo ty_Mo tyok_Mo nm_Mo (by decide) rfl (by decide +kernel) wd_636 d_Mo_off_11) (rz_cons (rz_aload_n G d_Mo_off_14 rfl) (rz_cons (rz_iconst G d_Mo_off_15 (by decide)) (rz_cons (rz_put G rfl in_Mo ty_Mo tyok_Mo nm_Mo (by decide) rfl (by decide +kernel) wd_653 d_Mo_off_16) (rz_cons (rz_iconst G d_Mo_off_19 (by decide)) (rz_cons (rz_iret (npc := 0) (fun _ => rfl) d_Mo_off_20) rz_nil))))))))
  | _ + 2 => rz_nil
set_option maxRecDepth 100000 in
set_option maxHeartbeats 4000000 in
theorem bd_Mo_off : ∀ (Y : Nat → rz_K) (P : rz_P), (∀ b ls st μ, rz_ex P Y (bk_Mo_off b) ls st μ → Y b ls st μ) → ∀ As μ, C_Mo_off As μ P → Y 0 (rz_pad 1 (rz_ent As)) [] μ := by
  intro Y P hY As μ hC
  obtain ⟨rfl, hC⟩ := hC
  exact hY 0 _ _ _ (And.intro (fun h => hY 1 _ _ _ (And.intro (Or.inl rfl) (rzT (PQ P) h hC))) (fun h => rzN (PQ P) h hC))
theorem m_Mo_off (E : rz_E) : rz_MI SH CL E y_Mo_off 1 (Cond.code y_Mo_off c_Mo_off 1 (some .int) :: rz_tbl) ({ frames := 0, cells := 0, slots := 0, locals := 0 }) C_Mo_off := rz_metI (by decide) rfl (fun X _ G => sd_Mo_off X G) bd_Mo_off
theorem cd_Mo_off : rz_Cd rz_tbl y_Mo_off c_Mo_off 1 (some .int) (Cond.code y_Mo_off c_Mo_off 1 (some .int) :: rz_tbl) 0 ({ frames := 0, cells := 0, slots := 0, locals := 0 }) := ⟨rz_good wd_766, ⟨_, rfl⟩, wd_47, by decide +kernel, rfl, rfl⟩
def g_put (x : Int32) (a : Nat) (μ : rz_M) : rz_M := rz_up (rz_up μ 29 a x) 19 32 (nI (a + 1))
def C_Mo_put : rz_C := fun As μ P => ∃ (x : Int32) (a : Nat), As = [.ref 19, .int x] ∧ μ 19 32 = nI a ∧ a < 40 ∧ P none (g_put x a μ)
def bk_Mo_put : Nat → List rz_T := fun b => match b with
  | 0 => [tz_aload 0, tz_get SH 7 27, tz_aload 0, tz_get SH 7 32, tz_iload 1, tz_iast SH, tz_aload 0, tz_dup, tz_get SH 7 32, tz_iconst 1, tz_iadd, tz_put SH 7 32, tz_vret]
  | _ => []
def bp_Mo_put : Nat → Nat := fun b => match b with
  | 0 => 0
  | _ => 0
set_option maxRecDepth 100000 in
set_option maxHeartbeats 4000000 in
theorem sd_Mo_put (X : rz_X) (G : rz_Cx CL X c_Mo_put 2 rz_tbl R_Mo ({ frames := 0, cells := 0, slots := 0, locals := 0 })) : ∀ b, rz_SB SH CL X bp_Mo_put (rz_RV SH CL X c_Mo_put) (bk_Mo_put b) (bp_Mo_put b) := fun b => match b with
  | 0 => (rz_cons (rz_aload_n G d_Mo_put_0 rfl) (rz_cons (rz_get G rfl in_Mo (by decide) wd_646 d_Mo_put_1) (rz_cons (rz_aload_n G d_Mo_put_4 rfl) (rz_cons (rz_get G rfl in_Mo (by decide) wd_651 d_Mo_put_5) (rz_cons (rz_iload_n G d_Mo_put_8 rfl) (rz_cons (rz_iast G d_Mo_put_9) (rz_cons (rz_aload_n G d_Mo_put_10 rfl) (rz_cons (rz_dup G d_Mo_put_11) (rz_cons (rz_get G rfl in_Mo (by decide) wd_651 d_Mo_put_12) (rz_cons (rz_iconst G d_Mo_put_15 (by decide)) (rz_cons (rz_iadd G d_Mo_put_16) (rz_cons (rz_put G rfl in_Mo ty_Mo tyok_Mo nm_Mo (by decide) rfl (by decide +kernel) wd_651 d_Mo_put_17) (rz_cons (rz_vret (npc := 0) d_Mo_put_20) rz_nil)))))))))))))
  | _ + 1 => rz_nil
set_option maxRecDepth 100000 in
set_option maxHeartbeats 4000000 in
theorem bd_Mo_put : ∀ (Y : Nat → rz_K) (P : rz_P), (∀ b ls st μ, rz_ex P Y (bk_Mo_put b) ls st μ → Y b ls st μ) → ∀ As μ, C_Mo_put As μ P → Y 0 (rz_pad 2 (rz_ent As)) [] μ := by
  intro Y P hY As μ hC
  obtain ⟨x, a, rfl, ha, h40, hC⟩ := hC
  refine hY 0 _ _ _ (And.intro ?_ ?_)
  · rw [ha]; exact vp_in_nI h40 (by omega)
  · unfold g_put at hC
    rw [nI_succ, ← ha] at hC
    rw [nc ha (by omega)]
    exact hC
theorem m_Mo_put (E : rz_E) : rz_MV SH CL E y_Mo_put 2 (Cond.code y_Mo_put c_Mo_put 2 none :: rz_tbl) ({ frames := 0, cells := 0, slots := 0, locals := 0 }) C_Mo_put := rz_metV (by decide) rfl (fun X _ G => sd_Mo_put X G) bd_Mo_put
theorem cd_Mo_put : rz_Cd rz_tbl y_Mo_put c_Mo_put 2 none (Cond.code y_Mo_put c_Mo_put 2 none :: rz_tbl) 1 ({ frames := 0, cells := 0, slots := 0, locals := 0 }) := ⟨rz_good wd_812, ⟨_, rfl⟩, wd_47, by decide +kernel, rfl, rfl⟩
def g_sec (μ : rz_M) : Int32 := (((μ 28 5 <<< ((24 : Int32) &&& 31)) ||| (μ 28 6 <<< ((16 : Int32) &&& 31))) ||| (μ 28 7 <<< ((8 : Int32) &&& 31))) ||| μ 28 8
def C_Mo_told : rz_C := fun As μ P => As = [.ref 19] ∧ P (some (.int (g_sec μ))) μ
def bk_Mo_told : Nat → List rz_T := fun b => match b with
  | 0 => [tz_aload 0, tz_get SH 7 26, tz_iconst 5, tz_iald SH, tz_bipush 24, tz_ishl, tz_aload 0, tz_get SH 7 26, tz_bipush 6, tz_iald SH, tz_bipush 16, tz_ishl, tz_ior, tz_aload 0, tz_get SH 7 26, tz_bipush 7, tz_iald SH, tz_bipush 8, tz_ishl, tz_ior, tz_aload 0, tz_get SH 7 26, tz_bipush 8, tz_iald SH, tz_ior, tz_iret]
  | _ => []
def bp_Mo_told : Nat → Nat := fun b => match b with
  | 0 => 0
  | _ => 0
set_option maxRecDepth 100000 in
set_option maxHeartbeats 4000000 in
theorem sd_Mo_told (X : rz_X) (G : rz_Cx CL X c_Mo_told 1 rz_tbl R_Mo ({ frames := 0, cells := 0, slots := 0, locals := 0 })) : ∀ b, rz_SB SH CL X bp_Mo_told (rz_RI SH CL X c_Mo_told (fun v => narrow .int (.int v) = .int v)) (bk_Mo_told b) (bp_Mo_told b) := fun b => match b with
  | 0 => (rz_cons (rz_aload_n G d_Mo_told_0 rfl) (rz_cons (rz_get G rfl in_Mo (by decide) wd_645 d_Mo_told_1) (rz_cons (rz_iconst G d_Mo_told_4 (by decide)) (rz_cons (rz_iald G d_Mo_told_5) (rz_cons (rz_bipush G d_Mo_told_6 (by decide)) (rz_cons (rz_ishl G d_Mo_told_8) (rz_cons (rz_aload_n G d_Mo_told_9 rfl) (rz_cons (rz_get G rfl in_Mo (by decide) wd_645 d_Mo_told_10) (rz_cons (rz_bipush G d_Mo_told_13 (by decide)) (rz_cons (rz_iald G d_Mo_told_15) (rz_cons (rz_bipush G d_Mo_told_16 (by decide)) (rz_cons (rz_ishl G d_Mo_told_18) (rz_cons (rz_ior G d_Mo_told_19) (rz_cons (rz_aload_n G d_Mo_told_20 rfl) (rz_cons (rz_get G rfl in_Mo (by decide) wd_645 d_Mo_told_21) (rz_cons (rz_bipush G d_Mo_told_24 (by decide)) (rz_cons (rz_iald G d_Mo_told_26) (rz_cons (rz_bipush G d_Mo_told_27 (by decide)) (rz_cons (rz_ishl G d_Mo_told_29) (rz_cons (rz_ior G d_Mo_told_30) (rz_cons (rz_aload_n G d_Mo_told_31 rfl) (rz_cons (rz_get G rfl in_Mo (by decide) wd_645 d_Mo_told_32) (rz_cons (rz_bipush G d_Mo_told_35 (by decide)) (rz_cons (rz_iald G d_Mo_told_37) (rz_cons (rz_ior G d_Mo_told_38) (rz_cons (rz_iret (npc := 0) (fun _ => rfl) d_Mo_told_39) rz_nil))))))))))))))))))))))))))
  | _ + 1 => rz_nil
set_option maxRecDepth 100000 in
set_option maxHeartbeats 4000000 in
theorem bd_Mo_told : ∀ (Y : Nat → rz_K) (P : rz_P), (∀ b ls st μ, rz_ex P Y (bk_Mo_told b) ls st μ → Y b ls st μ) → ∀ As μ, C_Mo_told As μ P → Y 0 (rz_pad 1 (rz_ent As)) [] μ := by
  intro Y P hY As μ hC
  obtain ⟨rfl, hC⟩ := hC
  exact hY 0 _ _ _ (And.intro (vi_c (by decide)) (And.intro (vi_c (by decide)) (And.intro (vi_c (by decide)) (And.intro (vi_c (by decide)) hC))))
theorem m_Mo_told (E : rz_E) : rz_MI SH CL E y_Mo_told 1 (Cond.code y_Mo_told c_Mo_told 1 (some .int) :: rz_tbl) ({ frames := 0, cells := 0, slots := 0, locals := 0 }) C_Mo_told := rz_metI (by decide) rfl (fun X _ G => sd_Mo_told X G) bd_Mo_told
theorem cd_Mo_told : rz_Cd rz_tbl y_Mo_told c_Mo_told 1 (some .int) (Cond.code y_Mo_told c_Mo_told 1 (some .int) :: rz_tbl) 0 ({ frames := 0, cells := 0, slots := 0, locals := 0 }) := ⟨rz_good wd_824, ⟨_, rfl⟩, wd_47, by decide +kernel, rfl, rfl⟩
def g_nd (r : Int32) (μ : rz_M) : Int32 := if ¬ r = 0 then μ 24 (μ 19 21).toNatClampNeg else μ 23 (μ 19 21).toNatClampNeg
def g_wr (r p : Int32) (μ : rz_M) : Int32 := if 0 ≤ μ 19 21 then (if g_nd r μ = 2 ∨ (g_nd r μ = 1 ∧ μ 19 18 = 0) then 27010 else if p < μ 22 (μ 19 21).toNatClampNeg then 0 else 27392) else 27014
def C_Mo_wrong : rz_C := fun As μ P => ∃ r p : Int32, As = [.ref 19, .int r, .int p] ∧ (0 ≤ μ 19 21 → μ 19 21 < 8) ∧ P (some (.int (g_wr r p μ))) μ
def bk_Mo_wrong : Nat → List rz_T := fun b => match b with
  | 0 => [tz_aload 0, tz_get SH 7 21, tz_if_ge 1, tz_sipush 27014, tz_iret]
  | 1 => [tz_iload 1, tz_if_ne 2, tz_aload 0, tz_get SH 7 3, tz_aload 0, tz_get SH 7 21, tz_iald SH, tz_goto 3]
  | 2 => [tz_aload 0, tz_get SH 7 4, tz_aload 0, tz_get SH 7 21, tz_iald SH, tz_fall 3]
  | 3 => [tz_istore 3, tz_iload 3, tz_iconst 2, tz_icmp_eq 4, tz_iload 3, tz_iconst 1, tz_icmp_ne 5, tz_aload 0, tz_get SH 7 18, tz_if_ne 5, tz_fall 4]
  | 4 => [tz_sipush 27010, tz_iret]
  | 5 => [tz_iload 2, tz_aload 0, tz_get SH 7 2, tz_aload 0, tz_get SH 7 21, tz_iald SH, tz_icmp_lt 6, tz_sipush 27392, tz_goto 7]
  | 6 => [tz_iconst 0, tz_fall 7]
  | 7 => [tz_iret]
  | _ => []
def bp_Mo_wrong : Nat → Nat := fun b => match b with
  | 0 => 0
  | 1 => 11
  | 2 => 27
  | 3 => 36
  | 4 => 54
  | 5 => 58
  | 6 => 77
  | 7 => 78
  | _ => 0
set_option maxRecDepth 100000 in
set_option maxHeartbeats 4000000 in
theorem sd_Mo_wrong (X : rz_X) (G : rz_Cx CL X c_Mo_wrong 4 rz_tbl R_Mo ({ frames := 0, cells := 0, slots := 0, locals := 0 })) : ∀ b, rz_SB SH CL X bp_Mo_wrong (rz_RI SH CL X c_Mo_wrong (fun v => narrow .int (.int v) = .int v)) (bk_Mo_wrong b) (bp_Mo_wrong b) := fun b => match b with
  | 0 => (rz_cons (rz_aload_n G d_Mo_wrong_0 rfl) (rz_cons (rz_get G rfl in_Mo (by decide) wd_640 d_Mo_wrong_1) (rz_cons (rz_if_ge G d_Mo_wrong_4 (by decide)) (rz_cons (rz_sipush G d_Mo_wrong_7 (by decide)) (rz_cons (rz_iret (npc := 0) (fun _ => rfl) d_Mo_wrong_10) rz_nil)))))
  | 1 => (rz_cons (rz_iload_n G d_Mo_wrong_11 rfl) (rz_cons (rz_if_ne G d_Mo_wrong_12 (by decide)) (rz_cons (rz_aload_n G d_Mo_wrong_15 rfl) (rz_cons (rz_get G rfl in_Mo (by decide) wd_622 d_Mo_wrong_16) (rz_cons (rz_aload_n G d_Mo_wrong_19 rfl) (rz_cons (rz_get G rfl in_Mo (by decide) wd_640 d_Mo_wrong_20) (rz_cons (rz_iald G d_Mo_wrong_23) (rz_cons (rz_goto (npc := 0) G d_Mo_wrong_24 (by decide)) rz_nil))))))))
  | 2 => (rz_cons (rz_aload_n G d_Mo_wrong_27 rfl) (rz_cons (rz_get G rfl in_Mo (by decide) wd_623 d_Mo_wrong_28) (rz_cons (rz_aload_n G d_Mo_wrong_31 rfl) (rz_cons (rz_get G rfl in_Mo (by decide) wd_640 d_Mo_wrong_32) (rz_cons (rz_iald G d_Mo_wrong_35) (rz_fall rfl))))))
  | 3 => (rz_cons (rz_istore_n G d_Mo_wrong_36 rfl (by decide)) (rz_cons (rz_iload_n G d_Mo_wrong_37 rfl) (rz_cons (rz_iconst G d_Mo_wrong_38 (by decide)) (rz_cons (rz_icmp_eq G d_Mo_wrong_39 (by decide)) (rz_cons (rz_iload_n G d_Mo_wrong_42 rfl) (rz_cons (rz_iconst G d_Mo_wrong_43 (by decide)) (rz_cons (rz_icmp_ne G d_Mo_wrong_44 (by decide)) (rz_cons (rz_aload_n G d_Mo_wrong_47 rfl) (rz_cons (rz_get G rfl in_Mo (by decide) wd_637 d_Mo_wrong_48) (rz_cons (rz_if_ne G d_Mo_wrong_51 (by decide)) (rz_fall rfl)))))))))))
  | 4 => (rz_cons (rz_sipush G d_Mo_wrong_54 (by decide)) (rz_cons (rz_iret (npc := 0) (fun _ => rfl) d_Mo_wrong_57) rz_nil))
  | 5 => (rz_cons (rz_iload_n G d_Mo_wrong_58 rfl) (rz_cons (rz_aload_n G d_Mo_wrong_59 rfl) (rz_cons (rz_get G rfl in_Mo (by decide) wd_621 d_Mo_wrong_60) (rz_cons (rz_aload_n G d_Mo_wrong_63 rfl) (rz_cons (rz_get G rfl in_Mo (by decide) wd_640 d_Mo_wrong_64) (rz_cons (rz_iald G d_Mo_wrong_67) (rz_cons (rz_icmp_lt G d_Mo_wrong_68 (by decide)) (rz_cons (rz_sipush G d_Mo_wrong_71 (by decide)) (rz_cons (rz_goto (npc := 0) G d_Mo_wrong_74 (by decide)) rz_nil)))))))))
  | 6 => (rz_cons (rz_iconst G d_Mo_wrong_77 (by decide)) (rz_fall rfl))
  | 7 => (rz_cons (rz_iret (npc := 0) (fun _ => rfl) d_Mo_wrong_78) rz_nil)
  | _ + 8 => rz_nil
set_option maxRecDepth 100000 in
set_option maxHeartbeats 4000000 in
theorem bd_Mo_wrong : ∀ (Y : Nat → rz_K) (P : rz_P), (∀ b ls st μ, rz_ex P Y (bk_Mo_wrong b) ls st μ → Y b ls st μ) → ∀ As μ, C_Mo_wrong As μ P → Y 0 (rz_pad 4 (rz_ent As)) [] μ := by
  intro Y P hY As μ hC
  obtain ⟨r, p, rfl, h8, hC⟩ := hC
  refine hY 0 _ _ _ (And.intro (fun h => ?_) (fun h => rzF (fun z => P (some (.int z)) μ) h hC))
  have hC := rzT (fun z => P (some (.int z)) μ) h hC
  have hv : vp_in (μ 19 21) 8 := vi_lt (m := 8) h (h8 h)
  have fin : ∀ z : Int32, z = g_nd r μ → Y 3 [some (.ref 19), some (.int r), some (.int p), none] [.int z] μ := by
    intro z hz
    subst hz
    have five : ¬ (g_nd r μ = 2 ∨ (g_nd r μ = 1 ∧ μ 19 18 = 0)) → Y 5 [some (.ref 19), some (.int r), some (.int p), some (.int (g_nd r μ))] [] μ := by
      intro hn
      have hC := rzF (fun z => P (some (.int z)) μ) hn hC
      refine hY 5 _ _ _ (And.intro hv (And.intro (fun h => hY 6 _ _ _ (hY 7 _ _ _ (rzT (fun z => P (some (.int z)) μ) h hC))) (fun h => hY 7 _ _ _ (rzF (fun z => P (some (.int z)) μ) h hC))))
    refine hY 3 _ _ _ (And.intro (fun h => hY 4 _ _ _ (rzT (fun z => P (some (.int z)) μ) (Or.inl h) hC)) (fun h2 => And.intro (fun h => five ?_) (fun h1 => And.intro (fun h => five ?_) (fun h => hY 4 _ _ _ (rzT (fun z => P (some (.int z)) μ) (Or.inr ⟨h1, h⟩) hC)))))
    · rintro (q | q)
      · exact h2 q
      · exact h q.1
    · rintro (q | q)
      · exact h2 q
      · exact h q.2
  refine hY 1 _ _ _ (And.intro (fun h => hY 2 _ _ _ (And.intro hv (fin _ (if_pos h).symm))) (fun h => And.intro hv (fin _ (if_neg (fun q => q h)).symm)))
theorem m_Mo_wrong (E : rz_E) : rz_MI SH CL E y_Mo_wrong 4 (Cond.code y_Mo_wrong c_Mo_wrong 4 (some .int) :: rz_tbl) ({ frames := 0, cells := 0, slots := 0, locals := 0 }) C_Mo_wrong := rz_metI (by decide) rfl (fun X _ G => sd_Mo_wrong X G) bd_Mo_wrong
theorem cd_Mo_wrong : rz_Cd rz_tbl y_Mo_wrong c_Mo_wrong 4 (some .int) (Cond.code y_Mo_wrong c_Mo_wrong 4 (some .int) :: rz_tbl) 2 ({ frames := 0, cells := 0, slots := 0, locals := 0 }) := ⟨rz_good wd_808, ⟨_, rfl⟩, wd_47, by decide +kernel, rfl, rfl⟩
def w_reply (k : Int32) (μ : rz_M) : Int32 := if ¬ k < 0 ∧ ¬ μ 19 34 - 1 < k then μ 30 k.toNatClampNeg else -1
def C_Mo_reply : rz_C := fun As μ P => ∃ k : Int32, As = [.ref 19, .int k] ∧ (¬ k < 0 ∧ ¬ μ 19 34 - 1 < k → vp_in k 40) ∧ P (some (.int (w_reply k μ))) μ
def bk_Mo_reply : Nat → List rz_T := fun b => match b with
  | 0 => [tz_iload 1, tz_iconst 0, tz_aload 0, tz_get SH 7 34, tz_iconst 1, tz_isub, tz_cs 3 3 C_Mo_within, tz_if_eq 1, tz_aload 0, tz_get SH 7 28, tz_iload 1, tz_iald SH, tz_goto 2]
  | 1 => [tz_iconst (-1), tz_fall 2]
  | 2 => [tz_iret]
  | _ => []
def bp_Mo_reply : Nat → Nat := fun b => match b with
  | 0 => 0
  | 1 => 23
  | 2 => 24
  | _ => 0
set_option maxRecDepth 100000 in
set_option maxHeartbeats 4000000 in
theorem sd_Mo_reply (X : rz_X) (G : rz_Cx CL X c_Mo_reply 2 rz_tbl R_Mo ({ frames := 1, cells := 0, slots := 0, locals := 22 })) : ∀ b, rz_SB SH CL X bp_Mo_reply (rz_RI SH CL X c_Mo_reply (fun v => narrow .int (.int v) = .int v)) (bk_Mo_reply b) (bp_Mo_reply b) := fun b => match b with
  | 0 => (rz_cons (rz_iload_n G d_Mo_reply_0 rfl) (rz_cons (rz_iconst G d_Mo_reply_1 (by decide)) (rz_cons (rz_aload_n G d_Mo_reply_2 rfl) (rz_cons (rz_get G rfl in_Mo (by decide) wd_653 d_Mo_reply_3) (rz_cons (rz_iconst G d_Mo_reply_6 (by decide)) (rz_cons (rz_isub G d_Mo_reply_7) (rz_cons (rz_csi G (m_Mo_within X.1) cd_Mo_within wd_735 wd_736 (by decide) d_Mo_reply_8) (rz_cons (rz_if_eq G d_Mo_reply_11 (by decide)) (rz_cons (rz_aload_n G d_Mo_reply_14 rfl) (rz_cons (rz_get G rfl in_Mo (by decide) wd_647 d_Mo_reply_15) (rz_cons (rz_iload_n G d_Mo_reply_18 rfl) (rz_cons (rz_iald G d_Mo_reply_19) (rz_cons (rz_goto (npc := 0) G d_Mo_reply_20 (by decide)) rz_nil)))))))))))))
  | 1 => (rz_cons (rz_iconst G d_Mo_reply_23 (by decide)) (rz_fall rfl))
  | 2 => (rz_cons (rz_iret (npc := 0) (fun _ => rfl) d_Mo_reply_24) rz_nil)
  | _ + 3 => rz_nil
set_option maxRecDepth 100000 in
set_option maxHeartbeats 4000000 in
theorem bd_Mo_reply : ∀ (Y : Nat → rz_K) (P : rz_P), (∀ b ls st μ, rz_ex P Y (bk_Mo_reply b) ls st μ → Y b ls st μ) → ∀ As μ, C_Mo_reply As μ P → Y 0 (rz_pad 2 (rz_ent As)) [] μ := by
  intro Y P hY As μ hC
  obtain ⟨k, rfl, hv, hC⟩ := hC
  exact hY 0 _ _ _ ⟨_, _, _, rfl, And.intro (fun h => hY 1 _ _ _ (hY 2 _ _ _ (rzF (fun z => P (some (.int z)) μ) (b2_eq h) hC))) (fun h => And.intro (hv (b2_ne h)) (hY 2 _ _ _ (rzT (fun z => P (some (.int z)) μ) (b2_ne h) hC)))⟩
theorem m_Mo_reply (E : rz_E) : rz_MI SH CL E y_Mo_reply 2 (Cond.code y_Mo_reply c_Mo_reply 2 (some .int) :: rz_tbl) ({ frames := 1, cells := 0, slots := 0, locals := 22 }) C_Mo_reply := rz_metI (by decide) rfl (fun X _ G => sd_Mo_reply X G) bd_Mo_reply
theorem cd_Mo_reply : rz_Cd rz_tbl y_Mo_reply c_Mo_reply 2 (some .int) (Cond.code y_Mo_reply c_Mo_reply 2 (some .int) :: rz_tbl) 1 ({ frames := 1, cells := 0, slots := 0, locals := 22 }) := ⟨rz_good wd_844, ⟨_, rfl⟩, wd_47, by decide +kernel, rfl, rfl⟩
def w_stored (f k : Int32) (μ : rz_M) : Int32 := if (¬ f < 0 ∧ ¬ μ 19 6 - 1 < f) ∧ (¬ k < 0 ∧ ¬ μ 22 f.toNatClampNeg - 1 < k) then μ 25 (24 * f + k).toNatClampNeg else -1
def C_Mo_stored : rz_C := fun As μ P => ∃ f k : Int32, As = [.ref 19, .int f, .int k] ∧ (¬ f < 0 ∧ ¬ μ 19 6 - 1 < f → vp_in f 8 ∧ (¬ k < 0 ∧ ¬ μ 22 f.toNatClampNeg - 1 < k → vp_in (24 * f + k) 192)) ∧ P (some (.int (w_stored f k μ))) μ
def bk_Mo_stored : Nat → List rz_T := fun b => match b with
  | 0 => [tz_iload 1, tz_iconst 0, tz_aload 0, tz_get SH 7 6, tz_iconst 1, tz_isub, tz_cs 3 3 C_Mo_within, tz_if_eq 1, tz_iload 2, tz_iconst 0, tz_aload 0, tz_get SH 7 2, tz_iload 1, tz_iald SH, tz_iconst 1, tz_isub, tz_cs 3 3 C_Mo_within, tz_if_eq 1, tz_aload 0, tz_get SH 7 5, tz_bipush 24, tz_iload 1, tz_imul, tz_iload 2, tz_iadd, tz_iald SH, tz_goto 2]
  | 1 => [tz_iconst (-1), tz_fall 2]
  | 2 => [tz_iret]
  | _ => []
def bp_Mo_stored : Nat → Nat := fun b => match b with
  | 0 => 0
  | 1 => 44
  | 2 => 45
  | _ => 0
set_option maxRecDepth 100000 in
set_option maxHeartbeats 4000000 in
theorem sd_Mo_stored (X : rz_X) (G : rz_Cx CL X c_Mo_stored 3 rz_tbl R_Mo ({ frames := 1, cells := 0, slots := 0, locals := 22 })) : ∀ b, rz_SB SH CL X bp_Mo_stored (rz_RI SH CL X c_Mo_stored (fun v => narrow .int (.int v) = .int v)) (bk_Mo_stored b) (bp_Mo_stored b) := fun b => match b with
  | 0 => (rz_cons (rz_iload_n G d_Mo_stored_0 rfl) (rz_cons (rz_iconst G d_Mo_stored_1 (by decide)) (rz_cons (rz_aload_n G d_Mo_stored_2 rfl) (rz_cons (rz_get G rfl in_Mo (by decide) wd_625 d_Mo_stored_3) (rz_cons (rz_iconst G d_Mo_stored_6 (by decide)) (rz_cons (rz_isub G d_Mo_stored_7) (rz_cons (rz_csi G (m_Mo_within X.1) cd_Mo_within wd_735 wd_736 (by decide) d_Mo_stored_8) (rz_cons (rz_if_eq G d_Mo_stored_11 (by decide)) (rz_cons (rz_iload_n G d_Mo_stored_14 rfl) (rz_cons (rz_iconst G d_Mo_stored_15 (by decide)) (rz_cons (rz_aload_n G d_Mo_stored_16 rfl) (rz_cons (rz_get G rfl in_Mo (by decide) wd_621 d_Mo_stored_17) (rz_cons (rz_iload_n G d_Mo_stored_20 rfl) (rz_cons (rz_iald G d_Mo_stored_21) (rz_cons (rz_iconst G d_Mo_stored_22 (by decide)) (rz_cons (rz_isub G d_Mo_stored_23) (rz_cons (rz_csi G (m_Mo_within X.1) cd_Mo_within wd_735 wd_736 (by decide) d_Mo_stored_24) (rz_cons (rz_if_eq G d_Mo_stored_27 (by decide)) (rz_cons (rz_aload_n G d_Mo_stored_30 rfl) (rz_cons (rz_get G rfl in_Mo (by decide) wd_624 d_Mo_stored_31) (rz_cons (rz_bipush G d_Mo_stored_34 (by decide)) (rz_cons (rz_iload_n G d_Mo_stored_36 rfl) (rz_cons (rz_imul G d_Mo_stored_37) (rz_cons (rz_iload_n G d_Mo_stored_38 rfl) (rz_cons (rz_iadd G d_Mo_stored_39) (rz_cons (rz_iald G d_Mo_stored_40) (rz_cons (rz_goto (npc := 0) G d_Mo_stored_41 (by decide)) rz_nil)))))))))))))))))))))))))))
  | 1 => (rz_cons (rz_iconst G d_Mo_stored_44 (by decide)) (rz_fall rfl))
  | 2 => (rz_cons (rz_iret (npc := 0) (fun _ => rfl) d_Mo_stored_45) rz_nil)
  | _ + 3 => rz_nil
set_option maxRecDepth 100000 in
set_option maxHeartbeats 4000000 in
theorem bd_Mo_stored : ∀ (Y : Nat → rz_K) (P : rz_P), (∀ b ls st μ, rz_ex P Y (bk_Mo_stored b) ls st μ → Y b ls st μ) → ∀ As μ, C_Mo_stored As μ P → Y 0 (rz_pad 3 (rz_ent As)) [] μ := by
  intro Y P hY As μ hC
  obtain ⟨f, k, rfl, hv, hC⟩ := hC
  refine hY 0 _ _ _ ⟨_, _, _, rfl, And.intro (fun h => hY 1 _ _ _ (hY 2 _ _ _ (rzF (fun z => P (some (.int z)) μ) (fun q => b2_eq h q.1) hC))) (fun h => And.intro (hv (b2_ne h)).1 ⟨_, _, _, rfl, And.intro (fun h2 => hY 1 _ _ _ (hY 2 _ _ _ (rzF (fun z => P (some (.int z)) μ) (fun q => b2_eq h2 q.2) hC))) (fun h2 => And.intro ((hv (b2_ne h)).2 (b2_ne h2)) (hY 2 _ _ _ (rzT (fun z => P (some (.int z)) μ) ⟨b2_ne h, b2_ne h2⟩ hC)))⟩)⟩
theorem m_Mo_stored (E : rz_E) : rz_MI SH CL E y_Mo_stored 3 (Cond.code y_Mo_stored c_Mo_stored 3 (some .int) :: rz_tbl) ({ frames := 1, cells := 0, slots := 0, locals := 22 }) C_Mo_stored := rz_metI (by decide) rfl (fun X _ G => sd_Mo_stored X G) bd_Mo_stored
theorem cd_Mo_stored : rz_Cd rz_tbl y_Mo_stored c_Mo_stored 3 (some .int) (Cond.code y_Mo_stored c_Mo_stored 3 (some .int) :: rz_tbl) 2 ({ frames := 1, cells := 0, slots := 0, locals := 22 }) := ⟨rz_good wd_848, ⟨_, rfl⟩, wd_47, by decide +kernel, rfl, rfl⟩
def w_look (f x : Int32) (μ : rz_M) : Int32 := if ¬ f < 0 ∧ ¬ μ 19 6 - 1 < f then (if x = 0 then μ 20 f.toNatClampNeg else if x = 1 then μ 21 f.toNatClampNeg else if x = 2 then μ 22 f.toNatClampNeg else if x = 3 then μ 23 f.toNatClampNeg else if x = 4 then μ 24 f.toNatClampNeg else -1) else -1
def C_Mo_look : rz_C := fun As μ P => ∃ f x : Int32, As = [.ref 19, .int f, .int x] ∧ (¬ f < 0 ∧ ¬ μ 19 6 - 1 < f → vp_in f 8) ∧ P (some (.int (w_look f x μ))) μ
def bk_Mo_look : Nat → List rz_T := fun b => match b with
  | 0 => [tz_iload 1, tz_iconst 0, tz_aload 0, tz_get SH 7 6, tz_iconst 1, tz_isub, tz_cs 3 3 C_Mo_within, tz_if_ne 1, tz_iconst (-1), tz_iret]
  | 1 => [tz_iload 2, tz_sw [(0, 2), (1, 3), (2, 4), (3, 5), (4, 6)] 7]
  | 2 => [tz_aload 0, tz_get SH 7 0, tz_iload 1, tz_iald SH, tz_iret]
  | 3 => [tz_aload 0, tz_get SH 7 1, tz_iload 1, tz_iald SH, tz_iret]
  | 4 => [tz_aload 0, tz_get SH 7 2, tz_iload 1, tz_iald SH, tz_iret]
  | 5 => [tz_aload 0, tz_get SH 7 3, tz_iload 1, tz_iald SH, tz_iret]
  | 6 => [tz_aload 0, tz_get SH 7 4, tz_iload 1, tz_iald SH, tz_iret]
  | 7 => [tz_iconst (-1), tz_iret]
  | _ => []
def bp_Mo_look : Nat → Nat := fun b => match b with
  | 0 => 0
  | 1 => 16
  | 2 => 52
  | 3 => 59
  | 4 => 66
  | 5 => 73
  | 6 => 80
  | 7 => 87
  | _ => 0
set_option maxRecDepth 100000 in
set_option maxHeartbeats 4000000 in
theorem sd_Mo_look (X : rz_X) (G : rz_Cx CL X c_Mo_look 3 rz_tbl R_Mo ({ frames := 1, cells := 0, slots := 0, locals := 22 })) : ∀ b, rz_SB SH CL X bp_Mo_look (rz_RI SH CL X c_Mo_look (fun v => narrow .int (.int v) = .int v)) (bk_Mo_look b) (bp_Mo_look b) := fun b => match b with
  | 0 => (rz_cons (rz_iload_n G d_Mo_look_0 rfl) (rz_cons (rz_iconst G d_Mo_look_1 (by decide)) (rz_cons (rz_aload_n G d_Mo_look_2 rfl) (rz_cons (rz_get G rfl in_Mo (by decide) wd_625 d_Mo_look_3) (rz_cons (rz_iconst G d_Mo_look_6 (by decide)) (rz_cons (rz_isub G d_Mo_look_7) (rz_cons (rz_csi G (m_Mo_within X.1) cd_Mo_within wd_735 wd_736 (by decide) d_Mo_look_8) (rz_cons (rz_if_ne G d_Mo_look_11 (by decide)) (rz_cons (rz_iconst G d_Mo_look_14 (by decide)) (rz_cons (rz_iret (npc := 0) (fun _ => rfl) d_Mo_look_15) rz_nil))))))))))
  | 1 => (rz_cons (rz_iload_n G d_Mo_look_16 rfl) (rz_cons (rz_table (npc := 0) G d_Mo_look_17 (by decide) (by decide) (by decide +kernel) (by decide) (by decide +kernel)) rz_nil))
  | 2 => (rz_cons (rz_aload_n G d_Mo_look_52 rfl) (rz_cons (rz_get G rfl in_Mo (by decide) wd_619 d_Mo_look_53) (rz_cons (rz_iload_n G d_Mo_look_56 rfl) (rz_cons (rz_iald G d_Mo_look_57) (rz_cons (rz_iret (npc := 0) (fun _ => rfl) d_Mo_look_58) rz_nil)))))
  | 3 => (rz_cons (rz_aload_n G d_Mo_look_59 rfl) (rz_cons (rz_get G rfl in_Mo (by decide) wd_620 d_Mo_look_60) (rz_cons (rz_iload_n G d_Mo_look_63 rfl) (rz_cons (rz_iald G d_Mo_look_64) (rz_cons (rz_iret (npc := 0) (fun _ => rfl) d_Mo_look_65) rz_nil)))))
  | 4 => (rz_cons (rz_aload_n G d_Mo_look_66 rfl) (rz_cons (rz_get G rfl in_Mo (by decide) wd_621 d_Mo_look_67) (rz_cons (rz_iload_n G d_Mo_look_70 rfl) (rz_cons (rz_iald G d_Mo_look_71) (rz_cons (rz_iret (npc := 0) (fun _ => rfl) d_Mo_look_72) rz_nil)))))
  | 5 => (rz_cons (rz_aload_n G d_Mo_look_73 rfl) (rz_cons (rz_get G rfl in_Mo (by decide) wd_622 d_Mo_look_74) (rz_cons (rz_iload_n G d_Mo_look_77 rfl) (rz_cons (rz_iald G d_Mo_look_78) (rz_cons (rz_iret (npc := 0) (fun _ => rfl) d_Mo_look_79) rz_nil)))))
  | 6 => (rz_cons (rz_aload_n G d_Mo_look_80 rfl) (rz_cons (rz_get G rfl in_Mo (by decide) wd_623 d_Mo_look_81) (rz_cons (rz_iload_n G d_Mo_look_84 rfl) (rz_cons (rz_iald G d_Mo_look_85) (rz_cons (rz_iret (npc := 0) (fun _ => rfl) d_Mo_look_86) rz_nil)))))
  | 7 => (rz_cons (rz_iconst G d_Mo_look_87 (by decide)) (rz_cons (rz_iret (npc := 0) (fun _ => rfl) d_Mo_look_88) rz_nil))
  | _ + 8 => rz_nil
set_option maxRecDepth 100000 in
set_option maxHeartbeats 4000000 in
theorem bd_Mo_look : ∀ (Y : Nat → rz_K) (P : rz_P), (∀ b ls st μ, rz_ex P Y (bk_Mo_look b) ls st μ → Y b ls st μ) → ∀ As μ, C_Mo_look As μ P → Y 0 (rz_pad 3 (rz_ent As)) [] μ := by
  intro Y P hY As μ hC
  obtain ⟨f, x, rfl, hv, hC⟩ := hC
  refine hY 0 _ _ _ ⟨_, _, _, rfl, And.intro (fun h => ?_) (fun h => rzF (fun z => P (some (.int z)) μ) (b2_eq h) hC)⟩
  have hv := hv (b2_ne h)
  have hC := rzT (fun z => P (some (.int z)) μ) (b2_ne h) hC
  refine hY 1 _ _ _ (And.intro (fun h => hY 2 _ _ _ (And.intro hv (rzT (fun z => P (some (.int z)) μ) h hC))) (fun h => ?_))
  have hC := rzF (fun z => P (some (.int z)) μ) h hC
  refine And.intro (fun h => hY 3 _ _ _ (And.intro hv (rzT (fun z => P (some (.int z)) μ) h hC))) (fun h => ?_)
  have hC := rzF (fun z => P (some (.int z)) μ) h hC
  refine And.intro (fun h => hY 4 _ _ _ (And.intro hv (rzT (fun z => P (some (.int z)) μ) h hC))) (fun h => ?_)
  have hC := rzF (fun z => P (some (.int z)) μ) h hC
  refine And.intro (fun h => hY 5 _ _ _ (And.intro hv (rzT (fun z => P (some (.int z)) μ) h hC))) (fun h => ?_)
  have hC := rzF (fun z => P (some (.int z)) μ) h hC
  refine And.intro (fun h => hY 6 _ _ _ (And.intro hv (rzT (fun z => P (some (.int z)) μ) h hC))) (fun h => ?_)
  exact hY 7 _ _ _ (rzF (fun z => P (some (.int z)) μ) h hC)
theorem m_Mo_look (E : rz_E) : rz_MI SH CL E y_Mo_look 3 (Cond.code y_Mo_look c_Mo_look 3 (some .int) :: rz_tbl) ({ frames := 1, cells := 0, slots := 0, locals := 22 }) C_Mo_look := rz_metI (by decide) rfl (fun X _ G => sd_Mo_look X G) bd_Mo_look
theorem cd_Mo_look : rz_Cd rz_tbl y_Mo_look c_Mo_look 3 (some .int) (Cond.code y_Mo_look c_Mo_look 3 (some .int) :: rz_tbl) 2 ({ frames := 1, cells := 0, slots := 0, locals := 22 }) := ⟨rz_good wd_856, ⟨_, rfl⟩, wd_47, by decide +kernel, rfl, rfl⟩
def w_st (x : Int32) (μ : rz_M) : Int32 := if x = 0 then (if μ 19 17 = 0 then 0 else 1) else if x = 1 then μ 19 6 else if x = 2 then μ 19 8 else if x = 3 then μ 19 7 else if x = 4 then (if μ 19 16 ≤ 0 then 0 else 1) else if x = 5 then μ 19 9 else if x = 6 then μ 19 10 else if x = 7 then μ 19 11 else if x = 8 then (if μ 19 18 = 0 then 0 else 1) else if x = 9 then μ 19 20 else if x = 10 then μ 19 21 else if x = 11 then μ 19 22 else if x = 12 then μ 19 23 else if x = 13 then μ 19 24 else if x = 14 then μ 19 31 else μ 19 32 - μ 19 33
def w_state (x : Int32) (μ : rz_M) : Int32 := if ¬ x < 0 ∧ ¬ 15 < x then (if ¬ x ≤ 7 ∧ μ 19 17 = 0 then -1 else w_st x μ) else -1
def C_Mo_state : rz_C := fun As μ P => ∃ x : Int32, As = [.ref 19, .int x] ∧ P (some (.int (w_state x μ))) μ
def bk_Mo_state : Nat → List rz_T := fun b => match b with
  | 0 => [tz_iload 1, tz_iconst 0, tz_bipush 15, tz_cs 3 3 C_Mo_within, tz_if_ne 1, tz_iconst (-1), tz_iret]
  | 1 => [tz_iload 1, tz_bipush 7, tz_icmp_le 2, tz_aload 0, tz_get SH 7 17, tz_if_ne 2, tz_iconst (-1), tz_iret]
  | 2 => [tz_iload 1, tz_sw [(0, 3), (1, 6), (2, 7), (3, 8), (4, 9), (5, 12), (6, 13), (7, 14), (8, 15), (9, 18), (10, 19), (11, 20), (12, 21), (13, 22), (14, 23)] 24]
  | 3 => [tz_aload 0, tz_get SH 7 17, tz_if_eq 4, tz_iconst 1, tz_goto 5]
  | 4 => [tz_iconst 0, tz_fall 5]
  | 5 => [tz_iret]
  | 6 => [tz_aload 0, tz_get SH 7 6, tz_iret]
  | 7 => [tz_aload 0, tz_get SH 7 8, tz_iret]
  | 8 => [tz_aload 0, tz_get SH 7 7, tz_iret]
  | 9 => [tz_aload 0, tz_get SH 7 16, tz_if_le 10, tz_iconst 1, tz_goto 11]
  | 10 => [tz_iconst 0, tz_fall 11]
  | 11 => [tz_iret]
  | 12 => [tz_aload 0, tz_get SH 7 9, tz_iret]
  | 13 => [tz_aload 0, tz_get SH 7 10, tz_iret]
  | 14 => [tz_aload 0, tz_get SH 7 11, tz_iret]
  | 15 => [tz_aload 0, tz_get SH 7 18, tz_if_eq 16, tz_iconst 1, tz_goto 17]
  | 16 => [tz_iconst 0, tz_fall 17]
  | 17 => [tz_iret]
  | 18 => [tz_aload 0, tz_get SH 7 20, tz_iret]
  | 19 => [tz_aload 0, tz_get SH 7 21, tz_iret]
  | 20 => [tz_aload 0, tz_get SH 7 22, tz_iret]
  | 21 => [tz_aload 0, tz_get SH 7 23, tz_iret]
  | 22 => [tz_aload 0, tz_get SH 7 24, tz_iret]
  | 23 => [tz_aload 0, tz_get SH 7 31, tz_iret]
  | 24 => [tz_aload 0, tz_get SH 7 32, tz_aload 0, tz_get SH 7 33, tz_isub, tz_iret]
  | _ => []
def bp_Mo_state : Nat → Nat := fun b => match b with
  | 0 => 0
  | 1 => 12
  | 2 => 27
  | 3 => 104
  | 4 => 115
  | 5 => 116
  | 6 => 117
  | 7 => 122
  | 8 => 127
  | 9 => 132
  | 10 => 143
  | 11 => 144
  | 12 => 145
  | 13 => 150
  | 14 => 155
  | 15 => 160
  | 16 => 171
  | 17 => 172
  | 18 => 173
  | 19 => 178
  | 20 => 183
  | 21 => 188
  | 22 => 193
  | 23 => 198
  | 24 => 203
  | _ => 0
set_option maxRecDepth 100000 in
set_option maxHeartbeats 4000000 in
theorem sd_Mo_state (X : rz_X) (G : rz_Cx CL X c_Mo_state 2 rz_tbl R_Mo ({ frames := 1, cells := 0, slots := 0, locals := 22 })) : ∀ b, rz_SB SH CL X bp_Mo_state (rz_RI SH CL X c_Mo_state (fun v => narrow .int (.int v) = .int v)) (bk_Mo_state b) (bp_Mo_state b) := fun b => match b with
  | 0 => (rz_cons (rz_iload_n G d_Mo_state_0 rfl) (rz_cons (rz_iconst G d_Mo_state_1 (by decide)) (rz_cons (rz_bipush G d_Mo_state_2 (by decide)) (rz_cons (rz_csi G (m_Mo_within X.1) cd_Mo_within wd_735 wd_736 (by decide) d_Mo_state_4) (rz_cons (rz_if_ne G d_Mo_state_7 (by decide)) (rz_cons (rz_iconst G d_Mo_state_10 (by decide)) (rz_cons (rz_iret (npc := 0) (fun _ => rfl) d_Mo_state_11) rz_nil)))))))
  | 1 => (rz_cons (rz_iload_n G d_Mo_state_12 rfl) (rz_cons (rz_bipush G d_Mo_state_13 (by decide)) (rz_cons (rz_icmp_le G d_Mo_state_15 (by decide)) (rz_cons (rz_aload_n G d_Mo_state_18 rfl) (rz_cons (rz_get G rfl in_Mo (by decide) wd_636 d_Mo_state_19) (rz_cons (rz_if_ne G d_Mo_state_22 (by decide)) (rz_cons (rz_iconst G d_Mo_state_25 (by decide)) (rz_cons (rz_iret (npc := 0) (fun _ => rfl) d_Mo_state_26) rz_nil))))))))
  | 2 => (rz_cons (rz_iload_n G d_Mo_state_27 rfl) (rz_cons (rz_table (npc := 0) G d_Mo_state_28 (by decide) (by decide) (by decide +kernel) (by decide) (by decide +kernel)) rz_nil))
  | 3 => (rz_cons (rz_aload_n G d_Mo_state_104 rfl) (rz_cons (rz_get G rfl in_Mo (by decide) wd_636 d_Mo_state_105) (rz_cons (rz_if_eq G d_Mo_state_108 (by decide)) (rz_cons (rz_iconst G d_Mo_state_111 (by decide)) (rz_cons (rz_goto (npc := 0) G d_Mo_state_112 (by decide)) rz_nil)))))
  | 4 => (rz_cons (rz_iconst G d_Mo_state_115 (by decide)) (rz_fall rfl))
  | 5 => (rz_cons (rz_iret (npc := 0) (fun _ => rfl) d_Mo_state_116) rz_nil)
  | 6 => (rz_cons (rz_aload_n G d_Mo_state_117 rfl) (rz_cons (rz_get G rfl in_Mo (by decide) wd_625 d_Mo_state_118) (rz_cons (rz_iret (npc := 0) (fun _ => rfl) d_Mo_state_121) rz_nil)))
  | 7 => (rz_cons (rz_aload_n G d_Mo_state_122 rfl) (rz_cons (rz_get G rfl in_Mo (by decide) wd_627 d_Mo_state_123) (rz_cons (rz_iret (npc := 0) (fun _ => rfl) d_Mo_state_126) rz_nil)))
  | 8 => (rz_cons (rz_aload_n G d_Mo_state_127 rfl) (rz_cons (rz_get G rfl in_Mo (by decide) wd_626 d_Mo_state_128) (rz_cons (rz_iret (npc := 0) (fun _ => rfl) d_Mo_state_131) rz_nil)))
  | 9 => (rz_cons (rz_aload_n G d_Mo_state_132 rfl) (rz_cons (rz_get G rfl in_Mo (by decide) wd_635 d_Mo_state_133) (rz_cons (rz_if_le G d_Mo_state_136 (by decide)) (rz_cons (rz_iconst G d_Mo_state_139 (by decide)) (rz_cons (rz_goto (npc := 0) G d_Mo_state_140 (by decide)) rz_nil)))))
  | 10 => (rz_cons (rz_iconst G d_Mo_state_143 (by decide)) (rz_fall rfl))
  | 11 => (rz_cons (rz_iret (npc := 0) (fun _ => rfl) d_Mo_state_144) rz_nil)
  | 12 => (rz_cons (rz_aload_n G d_Mo_state_145 rfl) (rz_cons (rz_get G rfl in_Mo (by decide) wd_628 d_Mo_state_146) (rz_cons (rz_iret (npc := 0) (fun _ => rfl) d_Mo_state_149) rz_nil)))
  | 13 => (rz_cons (rz_aload_n G d_Mo_state_150 rfl) (rz_cons (rz_get G rfl in_Mo (by decide) wd_629 d_Mo_state_151) (rz_cons (rz_iret (npc := 0) (fun _ => rfl) d_Mo_state_154) rz_nil)))
  | 14 => (rz_cons (rz_aload_n G d_Mo_state_155 rfl) (rz_cons (rz_get G rfl in_Mo (by decide) wd_630 d_Mo_state_156) (rz_cons (rz_iret (npc := 0) (fun _ => rfl) d_Mo_state_159) rz_nil)))
  | 15 => (rz_cons (rz_aload_n G d_Mo_state_160 rfl) (rz_cons (rz_get G rfl in_Mo (by decide) wd_637 d_Mo_state_161) (rz_cons (rz_if_eq G d_Mo_state_164 (by decide)) (rz_cons (rz_iconst G d_Mo_state_167 (by decide)) (rz_cons (rz_goto (npc := 0) G d_Mo_state_168 (by decide)) rz_nil)))))
  | 16 => (rz_cons (rz_iconst G d_Mo_state_171 (by decide)) (rz_fall rfl))
  | 17 => (rz_cons (rz_iret (npc := 0) (fun _ => rfl) d_Mo_state_172) rz_nil)
  | 18 => (rz_cons (rz_aload_n G d_Mo_state_173 rfl) (rz_cons (rz_get G rfl in_Mo (by decide) wd_639 d_Mo_state_174) (rz_cons (rz_iret (npc := 0) (fun _ => rfl) d_Mo_state_177) rz_nil)))
  | 19 => (rz_cons (rz_aload_n G d_Mo_state_178 rfl) (rz_cons (rz_get G rfl in_Mo (by decide) wd_640 d_Mo_state_179) (rz_cons (rz_iret (npc := 0) (fun _ => rfl) d_Mo_state_182) rz_nil)))
  | 20 => (rz_cons (rz_aload_n G d_Mo_state_183 rfl) (rz_cons (rz_get G rfl in_Mo (by decide) wd_641 d_Mo_state_184) (rz_cons (rz_iret (npc := 0) (fun _ => rfl) d_Mo_state_187) rz_nil)))
  | 21 => (rz_cons (rz_aload_n G d_Mo_state_188 rfl) (rz_cons (rz_get G rfl in_Mo (by decide) wd_642 d_Mo_state_189) (rz_cons (rz_iret (npc := 0) (fun _ => rfl) d_Mo_state_192) rz_nil)))
  | 22 => (rz_cons (rz_aload_n G d_Mo_state_193 rfl) (rz_cons (rz_get G rfl in_Mo (by decide) wd_643 d_Mo_state_194) (rz_cons (rz_iret (npc := 0) (fun _ => rfl) d_Mo_state_197) rz_nil)))
  | 23 => (rz_cons (rz_aload_n G d_Mo_state_198 rfl) (rz_cons (rz_get G rfl in_Mo (by decide) wd_650 d_Mo_state_199) (rz_cons (rz_iret (npc := 0) (fun _ => rfl) d_Mo_state_202) rz_nil)))
  | 24 => (rz_cons (rz_aload_n G d_Mo_state_203 rfl) (rz_cons (rz_get G rfl in_Mo (by decide) wd_651 d_Mo_state_204) (rz_cons (rz_aload_n G d_Mo_state_207 rfl) (rz_cons (rz_get G rfl in_Mo (by decide) wd_652 d_Mo_state_208) (rz_cons (rz_isub G d_Mo_state_211) (rz_cons (rz_iret (npc := 0) (fun _ => rfl) d_Mo_state_212) rz_nil))))))
  | _ + 25 => rz_nil
set_option maxRecDepth 100000 in
set_option maxHeartbeats 4000000 in
theorem bd_Mo_state : ∀ (Y : Nat → rz_K) (P : rz_P), (∀ b ls st μ, rz_ex P Y (bk_Mo_state b) ls st μ → Y b ls st μ) → ∀ As μ, C_Mo_state As μ P → Y 0 (rz_pad 2 (rz_ent As)) [] μ := by
  intro Y P hY As μ hC
  obtain ⟨x, rfl, hC⟩ := hC
  refine hY 0 _ _ _ ⟨_, _, _, rfl, And.intro (fun h => ?_) (fun h => rzF (fun z => P (some (.int z)) μ) (b2_eq h) hC)⟩
  have hC := rzT (fun z => P (some (.int z)) μ) (b2_ne h) hC
  have two : ¬ (¬ x ≤ 7 ∧ μ 19 17 = 0) → Y 2 [some (.ref 19), some (.int x)] [] μ := by
    intro hn
    have hC := rzF (fun z => P (some (.int z)) μ) hn hC
    refine hY 2 _ _ _ (And.intro (fun h => ?_) (fun h => ?_))
    · have hC := rzT (fun z => P (some (.int z)) μ) h hC
      exact hY 3 _ _ _ (And.intro (fun h => hY 4 _ _ _ (hY 5 _ _ _ (rzT (fun z => P (some (.int z)) μ) h hC))) (fun h => hY 5 _ _ _ (rzF (fun z => P (some (.int z)) μ) h hC)))
    have hC := rzF (fun z => P (some (.int z)) μ) h hC
    refine And.intro (fun h => hY 6 _ _ _ (rzT (fun z => P (some (.int z)) μ) h hC)) (fun h => ?_)
    have hC := rzF (fun z => P (some (.int z)) μ) h hC
    refine And.intro (fun h => hY 7 _ _ _ (rzT (fun z => P (some (.int z)) μ) h hC)) (fun h => ?_)
    have hC := rzF (fun z => P (some (.int z)) μ) h hC
    refine And.intro (fun h => hY 8 _ _ _ (rzT (fun z => P (some (.int z)) μ) h hC)) (fun h => ?_)
    have hC := rzF (fun z => P (some (.int z)) μ) h hC
    refine And.intro (fun h => ?_) (fun h => ?_)
    · have hC := rzT (fun z => P (some (.int z)) μ) h hC
      exact hY 9 _ _ _ (And.intro (fun h => hY 10 _ _ _ (hY 11 _ _ _ (rzT (fun z => P (some (.int z)) μ) h hC))) (fun h => hY 11 _ _ _ (rzF (fun z => P (some (.int z)) μ) h hC)))
    have hC := rzF (fun z => P (some (.int z)) μ) h hC
    refine And.intro (fun h => hY 12 _ _ _ (rzT (fun z => P (some (.int z)) μ) h hC)) (fun h => ?_)
    have hC := rzF (fun z => P (some (.int z)) μ) h hC
    refine And.intro (fun h => hY 13 _ _ _ (rzT (fun z => P (some (.int z)) μ) h hC)) (fun h => ?_)
    have hC := rzF (fun z => P (some (.int z)) μ) h hC
    refine And.intro (fun h => hY 14 _ _ _ (rzT (fun z => P (some (.int z)) μ) h hC)) (fun h => ?_)
    have hC := rzF (fun z => P (some (.int z)) μ) h hC
    refine And.intro (fun h => ?_) (fun h => ?_)
    · have hC := rzT (fun z => P (some (.int z)) μ) h hC
      exact hY 15 _ _ _ (And.intro (fun h => hY 16 _ _ _ (hY 17 _ _ _ (rzT (fun z => P (some (.int z)) μ) h hC))) (fun h => hY 17 _ _ _ (rzF (fun z => P (some (.int z)) μ) h hC)))
    have hC := rzF (fun z => P (some (.int z)) μ) h hC
    refine And.intro (fun h => hY 18 _ _ _ (rzT (fun z => P (some (.int z)) μ) h hC)) (fun h => ?_)
    have hC := rzF (fun z => P (some (.int z)) μ) h hC
    refine And.intro (fun h => hY 19 _ _ _ (rzT (fun z => P (some (.int z)) μ) h hC)) (fun h => ?_)
    have hC := rzF (fun z => P (some (.int z)) μ) h hC
    refine And.intro (fun h => hY 20 _ _ _ (rzT (fun z => P (some (.int z)) μ) h hC)) (fun h => ?_)
    have hC := rzF (fun z => P (some (.int z)) μ) h hC
    refine And.intro (fun h => hY 21 _ _ _ (rzT (fun z => P (some (.int z)) μ) h hC)) (fun h => ?_)
    have hC := rzF (fun z => P (some (.int z)) μ) h hC
    refine And.intro (fun h => hY 22 _ _ _ (rzT (fun z => P (some (.int z)) μ) h hC)) (fun h => ?_)
    have hC := rzF (fun z => P (some (.int z)) μ) h hC
    refine And.intro (fun h => hY 23 _ _ _ (rzT (fun z => P (some (.int z)) μ) h hC)) (fun h => ?_)
    exact hY 24 _ _ _ (rzF (fun z => P (some (.int z)) μ) h hC)
  exact hY 1 _ _ _ (And.intro (fun h => two (fun q => q.1 h)) (fun h => And.intro (fun h2 => two (fun q => h2 q.2)) (fun h2 => rzT (fun z => P (some (.int z)) μ) ⟨h, h2⟩ hC)))
theorem m_Mo_state (E : rz_E) : rz_MI SH CL E y_Mo_state 2 (Cond.code y_Mo_state c_Mo_state 2 (some .int) :: rz_tbl) ({ frames := 1, cells := 0, slots := 0, locals := 22 }) C_Mo_state := rz_metI (by decide) rfl (fun X _ G => sd_Mo_state X G) bd_Mo_state
theorem cd_Mo_state : rz_Cd rz_tbl y_Mo_state c_Mo_state 2 (some .int) (Cond.code y_Mo_state c_Mo_state 2 (some .int) :: rz_tbl) 1 ({ frames := 1, cells := 0, slots := 0, locals := 22 }) := ⟨rz_good wd_852, ⟨_, rfl⟩, wd_47, by decide +kernel, rfl, rfl⟩
def g_add (d n s r c : Int32) (μ : rz_M) : rz_M :=
  rz_up (rz_up (rz_up (rz_up (rz_up (rz_up μ 20 (μ 19 6).toNatClampNeg n) 21 (μ 19 6).toNatClampNeg d) 22 (μ 19 6).toNatClampNeg s) 23 (μ 19 6).toNatClampNeg (if s ≤ 0 then 0 else r)) 24 (μ 19 6).toNatClampNeg (if s ≤ 0 then 0 else c)) 19 6 (μ 19 6 + 1)
abbrev p_fold (d : Int32) (μ : rz_M) : Prop := (¬ d < 0 ∧ ¬ μ 19 6 - 1 < d) ∧ μ 22 d.toNatClampNeg = 0
abbrev p_rts (r c : Int32) : Prop := (¬ r < 0 ∧ ¬ 2 < r) ∧ (¬ c < 0 ∧ ¬ 2 < c)
abbrev p_bad (d n s r c : Int32) (μ : rz_M) : Prop := ¬ (¬ n < 0 ∧ ¬ 65535 < n) ∨ ¬ p_fold d μ ∨ ¬ (¬ s < 0 ∧ ¬ 24 < s) ∨ (¬ s ≤ 0 ∧ ¬ p_rts r c)
def g_file (d n s r c : Int32) (μ : rz_M) : Int32 × rz_M := if p_bad d n s r c μ then (-1, μ) else if μ 19 17 = 0 then (if ¬ μ 19 6 = 8 then (μ 19 6 + 1 - 1, g_add d n s r c μ) else (-2, μ)) else (-3, μ)
def C_Mo_file : rz_C := fun As μ P => ∃ d n s r c : Int32, As = [.ref 19, .int d, .int n, .int s, .int r, .int c] ∧ 0 ≤ μ 19 6 ∧ μ 19 6 ≤ 8 ∧ (¬ d < 0 ∧ ¬ μ 19 6 - 1 < d → vp_in d 8) ∧ PQ P (g_file d n s r c μ)
def bk_Mo_file : Nat → List rz_T := fun b => match b with
  | 0 => [tz_iload 1, tz_iconst 0, tz_aload 0, tz_get SH 7 6, tz_iconst 1, tz_isub, tz_cs 3 3 C_Mo_within, tz_if_eq 1, tz_aload 0, tz_get SH 7 2, tz_iload 1, tz_iald SH, tz_if_ne 1, tz_iconst 1, tz_goto 2]
  | 1 => [tz_iconst 0, tz_fall 2]
  | 2 => [tz_istore 6, tz_iload 4, tz_iconst 0, tz_iconst 2, tz_cs 3 3 C_Mo_within, tz_if_eq 3, tz_iload 5, tz_iconst 0, tz_iconst 2, tz_cs 3 3 C_Mo_within, tz_if_eq 3, tz_iconst 1, tz_goto 4]
  | 3 => [tz_iconst 0, tz_fall 4]
  | 4 => [tz_istore 7, tz_iload 2, tz_iconst 0, tz_ldc 65535, tz_cs 3 3 C_Mo_within, tz_if_eq 5, tz_iload 6, tz_if_eq 5, tz_iload 3, tz_iconst 0, tz_bipush 24, tz_cs 3 3 C_Mo_within, tz_if_eq 5, tz_iload 3, tz_if_le 6, tz_iload 7, tz_if_ne 6, tz_fall 5]
  | 5 => [tz_iconst (-1), tz_iret]
  | 6 => [tz_aload 0, tz_get SH 7 17, tz_if_eq 7, tz_bipush (-3), tz_iret]
  | 7 => [tz_aload 0, tz_get SH 7 6, tz_bipush 8, tz_icmp_ne 8, tz_bipush (-2), tz_iret]
  | 8 => [tz_aload 0, tz_get SH 7 0, tz_aload 0, tz_get SH 7 6, tz_iload 2, tz_iast SH, tz_aload 0, tz_get SH 7 1, tz_aload 0, tz_get SH 7 6, tz_iload 1, tz_iast SH, tz_aload 0, tz_get SH 7 2, tz_aload 0, tz_get SH 7 6, tz_iload 3, tz_iast SH, tz_aload 0, tz_get SH 7 3, tz_aload 0, tz_get SH 7 6, tz_iload 3, tz_if_le 9, tz_iload 4, tz_goto 10]
  | 9 => [tz_iconst 0, tz_fall 10]
  | 10 => [tz_iast SH, tz_aload 0, tz_get SH 7 4, tz_aload 0, tz_get SH 7 6, tz_iload 3, tz_if_le 11, tz_iload 5, tz_goto 12]
  | 11 => [tz_iconst 0, tz_fall 12]
  | 12 => [tz_iast SH, tz_aload 0, tz_dup, tz_get SH 7 6, tz_iconst 1, tz_iadd, tz_put SH 7 6, tz_aload 0, tz_get SH 7 6, tz_iconst 1, tz_isub, tz_iret]
  | _ => []
def bp_Mo_file : Nat → Nat := fun b => match b with
  | 0 => 0
  | 1 => 27
  | 2 => 28
  | 3 => 54
  | 4 => 55
  | 5 => 91
  | 6 => 93
  | 7 => 103
  | 8 => 115
  | 9 => 162
  | 10 => 163
  | 11 => 181
  | 12 => 182
  | _ => 0
set_option maxRecDepth 100000 in
set_option maxHeartbeats 4000000 in
theorem sd_Mo_file (X : rz_X) (G : rz_Cx CL X c_Mo_file 8 rz_tbl R_Mo ({ frames := 1, cells := 0, slots := 0, locals := 22 })) : ∀ b, rz_SB SH CL X bp_Mo_file (rz_RI SH CL X c_Mo_file (fun v => narrow .int (.int v) = .int v)) (bk_Mo_file b) (bp_Mo_file b) := fun b => match b with
  | 0 => (rz_cons (rz_iload_n G d_Mo_file_0 rfl) (rz_cons (rz_iconst G d_Mo_file_1 (by decide)) (rz_cons (rz_aload_n G d_Mo_file_2 rfl) (rz_cons (rz_get G rfl in_Mo (by decide) wd_625 d_Mo_file_3) (rz_cons (rz_iconst G d_Mo_file_6 (by decide)) (rz_cons (rz_isub G d_Mo_file_7) (rz_cons (rz_csi G (m_Mo_within X.1) cd_Mo_within wd_735 wd_736 (by decide) d_Mo_file_8) (rz_cons (rz_if_eq G d_Mo_file_11 (by decide)) (rz_cons (rz_aload_n G d_Mo_file_14 rfl) (rz_cons (rz_get G rfl in_Mo (by decide) wd_621 d_Mo_file_15) (rz_cons (rz_iload_n G d_Mo_file_18 rfl) (rz_cons (rz_iald G d_Mo_file_19) (rz_cons (rz_if_ne G d_Mo_file_20 (by decide)) (rz_cons (rz_iconst G d_Mo_file_23 (by decide)) (rz_cons (rz_goto (npc := 0) G d_Mo_file_24 (by decide)) rz_nil)))))))))))))))
  | 1 => (rz_cons (rz_iconst G d_Mo_file_27 (by decide)) (rz_fall rfl))
  | 2 => (rz_cons (rz_istore G d_Mo_file_28 (by decide)) (rz_cons (rz_iload G d_Mo_file_30) (rz_cons (rz_iconst G d_Mo_file_32 (by decide)) (rz_cons (rz_iconst G d_Mo_file_33 (by decide)) (rz_cons (rz_csi G (m_Mo_within X.1) cd_Mo_within wd_735 wd_736 (by decide) d_Mo_file_34) (rz_cons (rz_if_eq G d_Mo_file_37 (by decide)) (rz_cons (rz_iload G d_Mo_file_40) (rz_cons (rz_iconst G d_Mo_file_42 (by decide)) (rz_cons (rz_iconst G d_Mo_file_43 (by decide)) (rz_cons (rz_csi G (m_Mo_within X.1) cd_Mo_within wd_735 wd_736 (by decide) d_Mo_file_44) (rz_cons (rz_if_eq G d_Mo_file_47 (by decide)) (rz_cons (rz_iconst G d_Mo_file_50 (by decide)) (rz_cons (rz_goto (npc := 0) G d_Mo_file_51 (by decide)) rz_nil)))))))))))))
  | 3 => (rz_cons (rz_iconst G d_Mo_file_54 (by decide)) (rz_fall rfl))
  | 4 => (rz_cons (rz_istore G d_Mo_file_55 (by decide)) (rz_cons (rz_iload_n G d_Mo_file_57 rfl) (rz_cons (rz_iconst G d_Mo_file_58 (by decide)) (rz_cons (rz_ldc G wd_738 d_Mo_file_59) (rz_cons (rz_csi G (m_Mo_within X.1) cd_Mo_within wd_735 wd_736 (by decide) d_Mo_file_61) (rz_cons (rz_if_eq G d_Mo_file_64 (by decide)) (rz_cons (rz_iload G d_Mo_file_67) (rz_cons (rz_if_eq G d_Mo_file_69 (by decide)) (rz_cons (rz_iload_n G d_Mo_file_72 rfl) (rz_cons (rz_iconst G d_Mo_file_73 (by decide)) (rz_cons (rz_bipush G d_Mo_file_74 (by decide)) (rz_cons (rz_csi G (m_Mo_within X.1) cd_Mo_within wd_735 wd_736 (by decide) d_Mo_file_76) (rz_cons (rz_if_eq G d_Mo_file_79 (by decide)) (rz_cons (rz_iload_n G d_Mo_file_82 rfl) (rz_cons (rz_if_le G d_Mo_file_83 (by decide)) (rz_cons (rz_iload G d_Mo_file_86) (rz_cons (rz_if_ne G d_Mo_file_88 (by decide)) (rz_fall rfl))))))))))))))))))
  | 5 => (rz_cons (rz_iconst G d_Mo_file_91 (by decide)) (rz_cons (rz_iret (npc := 0) (fun _ => rfl) d_Mo_file_92) rz_nil))
  | 6 => (rz_cons (rz_aload_n G d_Mo_file_93 rfl) (rz_cons (rz_get G rfl in_Mo (by decide) wd_636 d_Mo_file_94) (rz_cons (rz_if_eq G d_Mo_file_97 (by decide)) (rz_cons (rz_bipush G d_Mo_file_100 (by decide)) (rz_cons (rz_iret (npc := 0) (fun _ => rfl) d_Mo_file_102) rz_nil)))))
  | 7 => (rz_cons (rz_aload_n G d_Mo_file_103 rfl) (rz_cons (rz_get G rfl in_Mo (by decide) wd_625 d_Mo_file_104) (rz_cons (rz_bipush G d_Mo_file_107 (by decide)) (rz_cons (rz_icmp_ne G d_Mo_file_109 (by decide)) (rz_cons (rz_bipush G d_Mo_file_112 (by decide)) (rz_cons (rz_iret (npc := 0) (fun _ => rfl) d_Mo_file_114) rz_nil))))))
  | 8 => (rz_cons (rz_aload_n G d_Mo_file_115 rfl) (rz_cons (rz_get G rfl in_Mo (by decide) wd_619 d_Mo_file_116) (rz_cons (rz_aload_n G d_Mo_file_119 rfl) (rz_cons (rz_get G rfl in_Mo (by decide) wd_625 d_Mo_file_120) (rz_cons (rz_iload_n G d_Mo_file_123 rfl) (rz_cons (rz_iast G d_Mo_file_124) (rz_cons (rz_aload_n G d_Mo_file_125 rfl) (rz_cons (rz_get G rfl in_Mo (by decide) wd_620 d_Mo_file_126) (rz_cons (rz_aload_n G d_Mo_file_129 rfl) (rz_cons (rz_get G rfl in_Mo (by decide) wd_625 d_Mo_file_130) (rz_cons (rz_iload_n G d_Mo_file_133 rfl) (rz_cons (rz_iast G d_Mo_file_134) (rz_cons (rz_aload_n G d_Mo_file_135 rfl) (rz_cons (rz_get G rfl in_Mo (by decide) wd_621 d_Mo_file_136) (rz_cons (rz_aload_n G d_Mo_file_139 rfl) (rz_cons (rz_get G rfl in_Mo (by decide) wd_625 d_Mo_file_140) (rz_cons (rz_iload_n G d_Mo_file_143 rfl) (rz_cons (rz_iast G d_Mo_file_144) (rz_cons (rz_aload_n G d_Mo_file_145 rfl) (rz_cons (rz_get G rfl in_Mo (by decide) wd_622 d_Mo_file_146) (rz_cons (rz_aload_n G d_Mo_file_149 rfl) (rz_cons (rz_get G rfl in_Mo (by decide) wd_625 d_Mo_file_150) (rz_cons (rz_iload_n G d_Mo_file_153 rfl) (rz_cons (rz_if_le G d_Mo_file_154 (by decide)) (rz_cons (rz_iload G d_Mo_file_157) (rz_cons (rz_goto (npc := 0) G d_Mo_file_159 (by decide)) rz_nil))))))))))))))))))))))))))
  | 9 => (rz_cons (rz_iconst G d_Mo_file_162 (by decide)) (rz_fall rfl))
  | 10 => (rz_cons (rz_iast G d_Mo_file_163) (rz_cons (rz_aload_n G d_Mo_file_164 rfl) (rz_cons (rz_get G rfl in_Mo (by decide) wd_623 d_Mo_file_165) (rz_cons (rz_aload_n G d_Mo_file_168 rfl) (rz_cons (rz_get G rfl in_Mo (by decide) wd_625 d_Mo_file_169) (rz_cons (rz_iload_n G d_Mo_file_172 rfl) (rz_cons (rz_if_le G d_Mo_file_173 (by decide)) (rz_cons (rz_iload G d_Mo_file_176) (rz_cons (rz_goto (npc := 0) G d_Mo_file_178 (by decide)) rz_nil)))))))))
  | 11 => (rz_cons (rz_iconst G d_Mo_file_181 (by decide)) (rz_fall rfl))
  | 12 => (rz_cons (rz_iast G d_Mo_file_182) (rz_cons (rz_aload_n G d_Mo_file_183 rfl) (rz_cons (rz_dup G d_Mo_file_184) (rz_cons (rz_get G rfl in_Mo (by decide) wd_625 d_Mo_file_185) (rz_cons (rz_iconst G d_Mo_file_188 (by decide)) (rz_cons (rz_iadd G d_Mo_file_189) (rz_cons (rz_put G rfl in_Mo ty_Mo tyok_Mo nm_Mo (by decide) rfl (by decide +kernel) wd_625 d_Mo_file_190) (rz_cons (rz_aload_n G d_Mo_file_193 rfl) (rz_cons (rz_get G rfl in_Mo (by decide) wd_625 d_Mo_file_194) (rz_cons (rz_iconst G d_Mo_file_197 (by decide)) (rz_cons (rz_isub G d_Mo_file_198) (rz_cons (rz_iret (npc := 0) (fun _ => rfl) d_Mo_file_199) rz_nil))))))))))))
  | _ + 13 => rz_nil
set_option maxRecDepth 100000 in
set_option maxHeartbeats 4000000 in
theorem bd_Mo_file : ∀ (Y : Nat → rz_K) (P : rz_P), (∀ b ls st μ, rz_ex P Y (bk_Mo_file b) ls st μ → Y b ls st μ) → ∀ As μ, C_Mo_file As μ P → Y 0 (rz_pad 8 (rz_ent As)) [] μ := by
  intro Y P hY As μ hC
  obtain ⟨d, n, s, r, c, rfl, h0, h8, hv, hC⟩ := hC
  have four : ∀ (x y : Int32), x = b2 (p_fold d μ) → y = b2 (p_rts r c) → Y 4 [some (.ref 19), some (.int d), some (.int n), some (.int s), some (.int r), some (.int c), some (.int x), none] [.int y] μ := by
    intro x y hx hy
    subst hx
    subst hy
    have six : ¬ p_bad d n s r c μ → Y 6 [some (.ref 19), some (.int d), some (.int n), some (.int s), some (.int r), some (.int c), some (.int (b2 (p_fold d μ))), some (.int (b2 (p_rts r c)))] [] μ := by
      intro hn
      have hC := rzF (PQ P) hn hC
      refine hY 6 _ _ _ (And.intro (fun h => ?_) (fun h => rzF (PQ P) h hC))
      have hC := rzT (PQ P) h hC
      refine hY 7 _ _ _ (And.intro (fun h => ?_) (fun h => rzN (PQ P) h hC))
      have hC := rzT (PQ P) h hC
      have hlt : μ 19 6 < 8 := by
        rw [i_le] at h8
        rw [i_eq] at h
        rw [i_lt]
        omega
      have hv : vp_in (μ 19 6) 8 := vi_lt (m := 8) h0 hlt
      unfold g_add at hC
      refine hY 8 _ _ _ (And.intro hv (And.intro hv (And.intro hv (And.intro (fun hs => ?_) (fun hs => ?_)))))
      · rw [if_pos hs, if_pos hs] at hC
        exact hY 9 _ _ _ (hY 10 _ _ _ (And.intro hv (And.intro (fun _ => hY 11 _ _ _ (hY 12 _ _ _ (And.intro hv hC))) (fun h => absurd hs h))))
      · rw [if_neg hs, if_neg hs] at hC
        exact hY 10 _ _ _ (And.intro hv (And.intro (fun h => absurd h hs) (fun _ => hY 12 _ _ _ (And.intro hv hC))))
    refine hY 4 _ _ _ ⟨_, _, _, rfl, And.intro (fun h => hY 5 _ _ _ (rzT (PQ P) (Or.inl (b2_eq h)) hC)) (fun k1 => And.intro (fun h => hY 5 _ _ _ (rzT (PQ P) (Or.inr (Or.inl (b2_eq h))) hC)) (fun k2 => ⟨_, _, _, rfl, And.intro (fun h => hY 5 _ _ _ (rzT (PQ P) (Or.inr (Or.inr (Or.inl (b2_eq h)))) hC)) (fun k3 => And.intro (fun h => six ?_) (fun k4 => And.intro (fun h => six ?_) (fun h => hY 5 _ _ _ (rzT (PQ P) (Or.inr (Or.inr (Or.inr ⟨k4, b2_eq h⟩))) hC))))⟩))⟩
    · rintro (q | q | q | q)
      · exact q (b2_ne k1)
      · exact q (b2_ne k2)
      · exact q (b2_ne k3)
      · exact q.1 h
    · rintro (q | q | q | q)
      · exact q (b2_ne k1)
      · exact q (b2_ne k2)
      · exact q (b2_ne k3)
      · exact q.2 (b2_ne h)
  have two : ∀ (x : Int32), x = b2 (p_fold d μ) → Y 2 [some (.ref 19), some (.int d), some (.int n), some (.int s), some (.int r), some (.int c), none, none] [.int x] μ := by
    intro x hx
    refine hY 2 _ _ _ ⟨_, _, _, rfl, And.intro (fun h => hY 3 _ _ _ (four _ _ hx ?_)) (fun h => ⟨_, _, _, rfl, And.intro (fun h2 => hY 3 _ _ _ (four _ _ hx ?_)) (fun h2 => four _ _ hx ?_)⟩)⟩
    · exact (b2_neg (fun q => b2_eq h q.1)).symm
    · exact (b2_neg (fun q => b2_eq h2 q.2)).symm
    · exact (b2_pos ⟨b2_ne h, b2_ne h2⟩).symm
  refine hY 0 _ _ _ ⟨_, _, _, rfl, And.intro (fun h => hY 1 _ _ _ (two _ ?_)) (fun h => And.intro (hv (b2_ne h)) (And.intro (fun h2 => hY 1 _ _ _ (two _ ?_)) (fun h2 => two _ ?_)))⟩
  · exact (b2_neg (fun q => b2_eq h q.1)).symm
  · exact (b2_neg (fun q => h2 q.2)).symm
  · exact (b2_pos ⟨b2_ne h, h2⟩).symm
theorem m_Mo_file (E : rz_E) : rz_MI SH CL E y_Mo_file 8 (Cond.code y_Mo_file c_Mo_file 8 (some .int) :: rz_tbl) ({ frames := 1, cells := 0, slots := 0, locals := 22 }) C_Mo_file := rz_metI (by decide) rfl (fun X _ G => sd_Mo_file X G) bd_Mo_file
theorem cd_Mo_file : rz_Cd rz_tbl y_Mo_file c_Mo_file 8 (some .int) (Cond.code y_Mo_file c_Mo_file 8 (some .int) :: rz_tbl) 5 ({ frames := 1, cells := 0, slots := 0, locals := 22 }) := ⟨rz_good wd_734, ⟨_, rfl⟩, wd_47, by decide +kernel, rfl, rfl⟩
