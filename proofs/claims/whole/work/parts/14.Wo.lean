def f_forget (μ : rz_M) : rz_M := rz_up (rz_up (rz_up (rz_up μ 15 1 0) 15 2 0) 17 1 0) 17 2 0
def C_Wo_forgetExchange : rz_C := fun As μ P => As = [.ref 5] ∧ P none (f_forget μ)
def bk_Wo_forgetExchange : Nat → List rz_T := fun b => match b with
  | 0 => [tz_aload 0, tz_get SH 5 1, tz_cv SH 0 1 1 C_Co_clear, tz_aload 0, tz_get SH 5 2, tz_cv SH 0 0 1 C_An_clear, tz_vret]
  | _ => []
def bp_Wo_forgetExchange : Nat → Nat := fun b => match b with
  | 0 => 0
  | _ => 0
set_option maxRecDepth 100000 in
set_option maxHeartbeats 4000000 in
theorem sd_Wo_forgetExchange (X : rz_X) (G : rz_Cx CL X c_Wo_forgetExchange 1 rz_tbl R_Wo ({ frames := 1, cells := 0, slots := 0, locals := 20 })) : ∀ b, rz_SB SH CL X bp_Wo_forgetExchange (rz_RV SH CL X c_Wo_forgetExchange) (bk_Wo_forgetExchange b) (bp_Wo_forgetExchange b) := fun b => match b with
  | 0 => (rz_cons (rz_aload_n G d_Wo_forgetExchange_0 rfl) (rz_cons (rz_get G rfl in_Wo (by decide) wd_235 d_Wo_forgetExchange_1) (rz_cons (rz_cvv G (m_Co_clear X.1) cd_Co_clear wd_322 wd_323 wd_324 rfl rfl (by decide) d_Wo_forgetExchange_4) (rz_cons (rz_aload_n G d_Wo_forgetExchange_7 rfl) (rz_cons (rz_get G rfl in_Wo (by decide) wd_237 d_Wo_forgetExchange_8) (rz_cons (rz_cvv G (m_An_clear X.1) cd_An_clear wd_326 wd_327 wd_328 rfl rfl (by decide) d_Wo_forgetExchange_11) (rz_cons (rz_vret (npc := 0) d_Wo_forgetExchange_14) rz_nil)))))))
  | _ + 1 => rz_nil
set_option maxRecDepth 100000 in
set_option maxHeartbeats 4000000 in
theorem bd_Wo_forgetExchange : ∀ (Y : Nat → rz_K) (P : rz_P), (∀ b ls st μ, rz_ex P Y (bk_Wo_forgetExchange b) ls st μ → Y b ls st μ) → ∀ As μ, C_Wo_forgetExchange As μ P → Y 0 (rz_pad 1 (rz_ent As)) [] μ := by
  intro Y P hY As μ hC
  obtain ⟨rfl, hC⟩ := hC
  exact hY 0 _ _ _ (And.intro rfl (And.intro rfl hC))
theorem m_Wo_forgetExchange (E : rz_E) : rz_MV SH CL E y_Wo_forgetExchange 1 (Cond.code y_Wo_forgetExchange c_Wo_forgetExchange 1 none :: rz_tbl) ({ frames := 1, cells := 0, slots := 0, locals := 20 }) C_Wo_forgetExchange := rz_metV (by decide) rfl (fun X _ G => sd_Wo_forgetExchange X G) bd_Wo_forgetExchange
theorem cd_Wo_forgetExchange : rz_Cd rz_tbl y_Wo_forgetExchange c_Wo_forgetExchange 1 none (Cond.code y_Wo_forgetExchange c_Wo_forgetExchange 1 none :: rz_tbl) 0 ({ frames := 1, cells := 0, slots := 0, locals := 20 }) := ⟨rz_good wd_321, ⟨_, rfl⟩, wd_42, by decide +kernel, rfl, rfl⟩
def f_wreset (μ : rz_M) : rz_M := f_forget (rz_up (rz_up (rz_up μ 5 3 0) 5 4 0) 5 5 (-1))
def C_Wo_reset : rz_C := fun As μ P => As = [.ref 5] ∧ P none (f_wreset μ)
def bk_Wo_reset : Nat → List rz_T := fun b => match b with
  | 0 => [tz_aload 0, tz_iconst 0, tz_putz SH 5 3, tz_aload 0, tz_iconst 0, tz_put SH 5 4, tz_aload 0, tz_iconst (-1), tz_put SH 5 5, tz_aload 0, tz_cv SH 0 5 1 C_Wo_forgetExchange, tz_vret]
  | _ => []
def bp_Wo_reset : Nat → Nat := fun b => match b with
  | 0 => 0
  | _ => 0
set_option maxRecDepth 100000 in
set_option maxHeartbeats 4000000 in
theorem sd_Wo_reset (X : rz_X) (G : rz_Cx CL X c_Wo_reset 1 rz_tbl R_Wo ({ frames := 2, cells := 0, slots := 0, locals := 40 })) : ∀ b, rz_SB SH CL X bp_Wo_reset (rz_RV SH CL X c_Wo_reset) (bk_Wo_reset b) (bp_Wo_reset b) := fun b => match b with
  | 0 => (rz_cons (rz_aload_n G d_Wo_reset_0 rfl) (rz_cons (rz_iconst G d_Wo_reset_1 (by decide)) (rz_cons (rz_putz G rfl in_Wo ty_Wo tyok_Wo nm_Wo (by decide) rfl (by decide +kernel) wd_239 d_Wo_reset_2) (rz_cons (rz_aload_n G d_Wo_reset_5 rfl) (rz_cons (rz_iconst G d_Wo_reset_6 (by decide)) (rz_cons (rz_put G rfl in_Wo ty_Wo tyok_Wo nm_Wo (by decide) rfl (by decide +kernel) wd_241 d_Wo_reset_7) (rz_cons (rz_aload_n G d_Wo_reset_10 rfl) (rz_cons (rz_iconst G d_Wo_reset_11 (by decide)) (rz_cons (rz_put G rfl in_Wo ty_Wo tyok_Wo nm_Wo (by decide) rfl (by decide +kernel) wd_243 d_Wo_reset_12) (rz_cons (rz_aload_n G d_Wo_reset_15 rfl) (rz_cons (rz_cvv G (m_Wo_forgetExchange X.1) cd_Wo_forgetExchange wd_318 wd_319 wd_320 rfl rfl (by decide) d_Wo_reset_16) (rz_cons (rz_vret (npc := 0) d_Wo_reset_19) rz_nil))))))))))))
  | _ + 1 => rz_nil
set_option maxRecDepth 100000 in
set_option maxHeartbeats 4000000 in
theorem bd_Wo_reset : ∀ (Y : Nat → rz_K) (P : rz_P), (∀ b ls st μ, rz_ex P Y (bk_Wo_reset b) ls st μ → Y b ls st μ) → ∀ As μ, C_Wo_reset As μ P → Y 0 (rz_pad 1 (rz_ent As)) [] μ := by
  intro Y P hY As μ hC
  obtain ⟨rfl, hC⟩ := hC
  exact hY 0 _ _ _ (And.intro (Or.inl rfl) (And.intro rfl hC))
theorem m_Wo_reset (E : rz_E) : rz_MV SH CL E y_Wo_reset 1 (Cond.code y_Wo_reset c_Wo_reset 1 none :: rz_tbl) ({ frames := 2, cells := 0, slots := 0, locals := 40 }) C_Wo_reset := rz_metV (by decide) rfl (fun X _ G => sd_Wo_reset X G) bd_Wo_reset
theorem cd_Wo_reset : rz_Cd rz_tbl y_Wo_reset c_Wo_reset 1 none (Cond.code y_Wo_reset c_Wo_reset 1 none :: rz_tbl) 0 ({ frames := 2, cells := 0, slots := 0, locals := 40 }) := ⟨rz_good wd_317, ⟨_, rfl⟩, wd_42, by decide +kernel, rfl, rfl⟩
def f_conc (s : Int32) (μ : rz_M) : rz_M := f_An_add (s &&& 255) (f_An_add (s >>> ((8 : Int32) &&& 31)) (rz_up (rz_up μ 15 1 0) 15 2 0))
theorem f_An_nI {x : Int32} {μ : rz_M} {a : Nat} (h : μ 17 1 = nI a) (ha : a < 26) : f_An_add x μ = rz_up (rz_up μ 17 1 (nI (a + 1))) 18 a x := by
  unfold f_An_add
  rw [h, if_neg (show ¬ (26 : Int32) ≤ nI a from nI_ge (a := a) (b := 26) ha (by omega)), nI_clamp (by omega), nI_succ]
def C_Wo_conclude : rz_C := fun As μ P => ∃ (s : Int32) (a : Nat), As = [.ref 5, .int s] ∧ μ 17 1 = nI a ∧ a ≤ 24 ∧ P none (f_conc s μ)
def bk_Wo_conclude : Nat → List rz_T := fun b => match b with
  | 0 => [tz_aload 0, tz_get SH 5 1, tz_cv SH 0 1 1 C_Co_clear, tz_aload 0, tz_get SH 5 2, tz_iload 1, tz_bipush 8, tz_ishr, tz_cv SH 1 0 2 C_An_add, tz_aload 0, tz_get SH 5 2, tz_iload 1, tz_sipush 255, tz_iand, tz_cv SH 1 0 2 C_An_add, tz_vret]
  | _ => []
def bp_Wo_conclude : Nat → Nat := fun b => match b with
  | 0 => 0
  | _ => 0
set_option maxRecDepth 100000 in
set_option maxHeartbeats 4000000 in
theorem sd_Wo_conclude (X : rz_X) (G : rz_Cx CL X c_Wo_conclude 2 rz_tbl R_Wo ({ frames := 1, cells := 0, slots := 0, locals := 21 })) : ∀ b, rz_SB SH CL X bp_Wo_conclude (rz_RV SH CL X c_Wo_conclude) (bk_Wo_conclude b) (bp_Wo_conclude b) := fun b => match b with
  | 0 => (rz_cons (rz_aload_n G d_Wo_conclude_0 rfl) (rz_cons (rz_get G rfl in_Wo (by decide) wd_235 d_Wo_conclude_1) (rz_cons (rz_cvv G (m_Co_clear X.1) cd_Co_clear wd_322 wd_323 wd_324 rfl rfl (by decide) d_Wo_conclude_4) (rz_cons (rz_aload_n G d_Wo_conclude_7 rfl) (rz_cons (rz_get G rfl in_Wo (by decide) wd_237 d_Wo_conclude_8) (rz_cons (rz_iload_n G d_Wo_conclude_11 rfl) (rz_cons (rz_bipush G d_Wo_conclude_12 (by decide)) (rz_cons (rz_ishr G d_Wo_conclude_14) (rz_cons (rz_cvv G (m_An_add X.1) cd_An_add wd_498 wd_499 wd_500 rfl rfl (by decide) d_Wo_conclude_15) (rz_cons (rz_aload_n G d_Wo_conclude_18 rfl) (rz_cons (rz_get G rfl in_Wo (by decide) wd_237 d_Wo_conclude_19) (rz_cons (rz_iload_n G d_Wo_conclude_22 rfl) (rz_cons (rz_sipush G d_Wo_conclude_23 (by decide)) (rz_cons (rz_iand G d_Wo_conclude_26) (rz_cons (rz_cvv G (m_An_add X.1) cd_An_add wd_498 wd_499 wd_500 rfl rfl (by decide) d_Wo_conclude_27) (rz_cons (rz_vret (npc := 0) d_Wo_conclude_30) rz_nil))))))))))))))))
  | _ + 1 => rz_nil
set_option maxRecDepth 100000 in
set_option maxHeartbeats 4000000 in
theorem bd_Wo_conclude : ∀ (Y : Nat → rz_K) (P : rz_P), (∀ b ls st μ, rz_ex P Y (bk_Wo_conclude b) ls st μ → Y b ls st μ) → ∀ As μ, C_Wo_conclude As μ P → Y 0 (rz_pad 2 (rz_ent As)) [] μ := by
  intro Y P hY As μ hC
  obtain ⟨s, a, rfl, ha, h24, hC⟩ := hC
  refine hY 0 _ _ _ (And.intro rfl ⟨_, rfl, ?_, _, rfl, ?_, hC⟩)
  · show 0 ≤ μ 17 1
    rw [ha]; exact nI_pos' (by omega)
  · rw [f_An_nI (μ := rz_up (rz_up μ 15 1 0) 15 2 0) (a := a) ha (by omega)]
    exact nI_pos' (n := a + 1) (by omega)
theorem m_Wo_conclude (E : rz_E) : rz_MV SH CL E y_Wo_conclude 2 (Cond.code y_Wo_conclude c_Wo_conclude 2 none :: rz_tbl) ({ frames := 1, cells := 0, slots := 0, locals := 21 }) C_Wo_conclude := rz_metV (by decide) rfl (fun X _ G => sd_Wo_conclude X G) bd_Wo_conclude
theorem cd_Wo_conclude : rz_Cd rz_tbl y_Wo_conclude c_Wo_conclude 2 none (Cond.code y_Wo_conclude c_Wo_conclude 2 none :: rz_tbl) 1 ({ frames := 1, cells := 0, slots := 0, locals := 21 }) := ⟨rz_good wd_537, ⟨_, rfl⟩, wd_42, by decide +kernel, rfl, rfl⟩
def v_par (μ : rz_M) : Int32 := if ¬ μ 5 4 < 0 ∧ ¬ μ 7 6 ≤ μ 5 4 then μ 9 (μ 5 4).toNatClampNeg else -1
def C_Wo_parentOfDirectory : rz_C := fun As μ P => As = [.ref 5] ∧ μ 7 6 ≤ 8 ∧ P (some (.int (v_par μ))) μ
def bk_Wo_parentOfDirectory : Nat → List rz_T := fun b => match b with
  | 0 => [tz_aload 0, tz_get SH 5 0, tz_get SH 4 0, tz_aload 0, tz_get SH 5 4, tz_cv SH 1 2 2 C_Fi_has, tz_if_eq 1, tz_aload 0, tz_get SH 5 0, tz_get SH 4 0, tz_get SH 2 1, tz_aload 0, tz_get SH 5 4, tz_iald SH, tz_goto 2]
  | 1 => [tz_iconst (-1), tz_fall 2]
  | 2 => [tz_iret]
  | _ => []
def bp_Wo_parentOfDirectory : Nat → Nat := fun b => match b with
  | 0 => 0
  | 1 => 35
  | 2 => 36
  | _ => 0
set_option maxRecDepth 100000 in
set_option maxHeartbeats 4000000 in
theorem sd_Wo_parentOfDirectory (X : rz_X) (G : rz_Cx CL X c_Wo_parentOfDirectory 1 rz_tbl R_Wo ({ frames := 1, cells := 0, slots := 0, locals := 21 })) : ∀ b, rz_SB SH CL X bp_Wo_parentOfDirectory (rz_RI SH CL X c_Wo_parentOfDirectory (fun v => narrow .int (.int v) = .int v)) (bk_Wo_parentOfDirectory b) (bp_Wo_parentOfDirectory b) := fun b => match b with
  | 0 => (rz_cons (rz_aload_n G d_Wo_parentOfDirectory_0 rfl) (rz_cons (rz_get G rfl in_Wo (by decide) wd_233 d_Wo_parentOfDirectory_1) (rz_cons (rz_getN G rfl in_Me (by decide) wn_16 d_Wo_parentOfDirectory_4) (rz_cons (rz_aload_n G d_Wo_parentOfDirectory_7 rfl) (rz_cons (rz_get G rfl in_Wo (by decide) wd_241 d_Wo_parentOfDirectory_8) (rz_cons (rz_cvi G (m_Fi_has X.1) cd_Fi_has wd_462 wd_284 wd_285 rfl rfl (by decide) d_Wo_parentOfDirectory_11) (rz_cons (rz_if_eq G d_Wo_parentOfDirectory_14 (by decide)) (rz_cons (rz_aload_n G d_Wo_parentOfDirectory_17 rfl) (rz_cons (rz_get G rfl in_Wo (by decide) wd_233 d_Wo_parentOfDirectory_18) (rz_cons (rz_getN G rfl in_Me (by decide) wn_16 d_Wo_parentOfDirectory_21) (rz_cons (rz_getN G rfl in_Fi (by decide) wn_8 d_Wo_parentOfDirectory_24) (rz_cons (rz_aload_n G d_Wo_parentOfDirectory_27 rfl) (rz_cons (rz_get G rfl in_Wo (by decide) wd_241 d_Wo_parentOfDirectory_28) (rz_cons (rz_iald G d_Wo_parentOfDirectory_31) (rz_cons (rz_goto (npc := 0) G d_Wo_parentOfDirectory_32 (by decide)) rz_nil)))))))))))))))
  | 1 => (rz_cons (rz_iconst G d_Wo_parentOfDirectory_35 (by decide)) (rz_fall rfl))
  | 2 => (rz_cons (rz_iret (npc := 0) (fun _ => rfl) d_Wo_parentOfDirectory_36) rz_nil)
  | _ + 3 => rz_nil
set_option maxRecDepth 100000 in
set_option maxHeartbeats 4000000 in
theorem bd_Wo_parentOfDirectory : ∀ (Y : Nat → rz_K) (P : rz_P), (∀ b ls st μ, rz_ex P Y (bk_Wo_parentOfDirectory b) ls st μ → Y b ls st μ) → ∀ As μ, C_Wo_parentOfDirectory As μ P → Y 0 (rz_pad 1 (rz_ent As)) [] μ := by
  intro Y P hY As μ hC
  obtain ⟨rfl, h8, hC⟩ := hC
  refine hY 0 _ _ _ ⟨_, rfl, And.intro (fun h => ?_) (fun h => And.intro ?_ ?_)⟩
  · exact hY _ _ _ _ (hY _ _ _ _ (rzF (fun z => P (some (.int z)) μ) (b2_eq h) hC))
  · have := b2_ne h
    exact vi_lt (m := 8) (Int32.not_lt.mp this.1) (Int32.lt_of_lt_of_le (Int32.not_le.mp this.2) h8)
  · exact hY _ _ _ _ (rzT (fun z => P (some (.int z)) μ) (b2_ne h) hC)
theorem m_Wo_parentOfDirectory (E : rz_E) : rz_MI SH CL E y_Wo_parentOfDirectory 1 (Cond.code y_Wo_parentOfDirectory c_Wo_parentOfDirectory 1 (some .int) :: rz_tbl) ({ frames := 1, cells := 0, slots := 0, locals := 21 }) C_Wo_parentOfDirectory := rz_metI (by decide) rfl (fun X _ G => sd_Wo_parentOfDirectory X G) bd_Wo_parentOfDirectory
theorem cd_Wo_parentOfDirectory : rz_Cd rz_tbl y_Wo_parentOfDirectory c_Wo_parentOfDirectory 1 (some .int) (Cond.code y_Wo_parentOfDirectory c_Wo_parentOfDirectory 1 (some .int) :: rz_tbl) 0 ({ frames := 1, cells := 0, slots := 0, locals := 21 }) := ⟨rz_good wd_461, ⟨_, rfl⟩, wd_42, by decide +kernel, rfl, rfl⟩
def f_fi2 (x : Int32) (μ : rz_M) : Int32 × rz_M := if ¬ x = -1 then (if ¬ x < 0 ∧ ¬ μ 7 6 ≤ x ∧ μ 10 x.toNatClampNeg = 0 then (36864, rz_up (rz_up μ 5 4 x) 5 5 (-1)) else (36864, rz_up μ 5 5 x)) else (27266, μ)
def v_nm (μ : rz_M) : Int32 := (μ 16 5 <<< ((8 : Int32) &&& 31)) ||| μ 16 6
def v_fnd (μ : rz_M) : Int32 := if v_nm μ = 16128 then 0 else f_find μ (μ 5 4) (v_nm μ) ((μ 7 6).toNatClampNeg - 1) 1
def f_fi (μ : rz_M) : Int32 × rz_M := if μ 16 2 = 0 then (if μ 16 3 = 0 then (if μ 15 3 = 2 then f_fi2 (v_fnd μ) μ else (26368, μ)) else (27270, μ)) else (if ¬ μ 16 2 = 3 then (27270, μ) else (if μ 16 3 = 0 then (if μ 15 3 = 0 then f_fi2 (v_par μ) μ else (26368, μ)) else (27270, μ)))
def C_Wo_find : rz_C := fun As μ P => ∃ c : Nat, As = [.ref 5] ∧ μ 7 6 = nI c ∧ 1 ≤ c ∧ c ≤ 8 ∧ PQ P (f_fi μ)
def bk_Wo_find : Nat → List rz_T := fun b => match b with
  | 0 => [tz_aload 0, tz_get SH 5 1, tz_cv SH 0 1 1 C_Co_a, tz_if_ne 1, tz_iconst 1, tz_goto 2]
  | 1 => [tz_iconst 0, tz_fall 2]
  | 2 => [tz_istore 1, tz_iload 1, tz_if_ne 3, tz_aload 0, tz_get SH 5 1, tz_cv SH 0 1 1 C_Co_a, tz_iconst 3, tz_icmp_ne 4, tz_fall 3]
  | 3 => [tz_aload 0, tz_get SH 5 1, tz_cv SH 0 1 1 C_Co_b, tz_if_eq 5, tz_fall 4]
  | 4 => [tz_sipush 27270, tz_iret]
  | 5 => [tz_aload 0, tz_get SH 5 1, tz_get SH 1 3, tz_iload 1, tz_if_eq 6, tz_iconst 2, tz_goto 7]
  | 6 => [tz_iconst 0, tz_fall 7]
  | 7 => [tz_icmp_eq 8, tz_sipush 26368, tz_iret]
  | 8 => [tz_aload 0, tz_get SH 5 0, tz_get SH 4 0, tz_astore 2, tz_iload 1, tz_if_eq 9, tz_aload 2, tz_aload 0, tz_get SH 5 4, tz_aload 0, tz_get SH 5 1, tz_cv SH 0 1 1 C_Co_dataAsName, tz_cv SH 2 2 4 C_Fi_find, tz_goto 10]
  | 9 => [tz_aload 0, tz_cv SH 0 5 1 C_Wo_parentOfDirectory, tz_fall 10]
  | 10 => [tz_istore 3, tz_iload 3, tz_iconst (-1), tz_icmp_ne 11, tz_sipush 27266, tz_iret]
  | 11 => [tz_aload 2, tz_iload 3, tz_cv SH 1 2 2 C_Fi_isDirectory, tz_if_eq 12, tz_aload 0, tz_iload 3, tz_put SH 5 4, tz_aload 0, tz_iconst (-1), tz_put SH 5 5, tz_goto 13]
  | 12 => [tz_aload 0, tz_iload 3, tz_put SH 5 5, tz_fall 13]
  | 13 => [tz_ldc 36864, tz_iret]
  | _ => []
def bp_Wo_find : Nat → Nat := fun b => match b with
  | 0 => 0
  | 1 => 14
  | 2 => 15
  | 3 => 31
  | 4 => 41
  | 5 => 45
  | 6 => 60
  | 7 => 61
  | 8 => 68
  | 9 => 98
  | 10 => 102
  | 11 => 112
  | 12 => 133
  | 13 => 138
  | _ => 0
set_option maxRecDepth 100000 in
set_option maxHeartbeats 4000000 in
theorem sd_Wo_find (X : rz_X) (G : rz_Cx CL X c_Wo_find 4 rz_tbl R_Wo ({ frames := 2, cells := 0, slots := 0, locals := 42 })) : ∀ b, rz_SB SH CL X bp_Wo_find (rz_RI SH CL X c_Wo_find (fun v => narrow .int (.int v) = .int v)) (bk_Wo_find b) (bp_Wo_find b) := fun b => match b with
  | 0 => (rz_cons (rz_aload_n G d_Wo_find_0 rfl) (rz_cons (rz_get G rfl in_Wo (by decide) wd_235 d_Wo_find_1) (rz_cons (rz_cvi G (m_Co_a X.1) cd_Co_a wd_438 wd_439 wd_440 rfl rfl (by decide) d_Wo_find_4) (rz_cons (rz_if_ne G d_Wo_find_7 (by decide)) (rz_cons (rz_iconst G d_Wo_find_10 (by decide)) (rz_cons (rz_goto (npc := 0) G d_Wo_find_11 (by decide)) rz_nil))))))
  | 1 => (rz_cons (rz_iconst G d_Wo_find_14 (by decide)) (rz_fall rfl))
  | 2 => (rz_cons (rz_istore_n G d_Wo_find_15 rfl (by decide)) (rz_cons (rz_iload_n G d_Wo_find_16 rfl) (rz_cons (rz_if_ne G d_Wo_find_17 (by decide)) (rz_cons (rz_aload_n G d_Wo_find_20 rfl) (rz_cons (rz_get G rfl in_Wo (by decide) wd_235 d_Wo_find_21) (rz_cons (rz_cvi G (m_Co_a X.1) cd_Co_a wd_438 wd_439 wd_440 rfl rfl (by decide) d_Wo_find_24) (rz_cons (rz_iconst G d_Wo_find_27 (by decide)) (rz_cons (rz_icmp_ne G d_Wo_find_28 (by decide)) (rz_fall rfl)))))))))
  | 3 => (rz_cons (rz_aload_n G d_Wo_find_31 rfl) (rz_cons (rz_get G rfl in_Wo (by decide) wd_235 d_Wo_find_32) (rz_cons (rz_cvi G (m_Co_b X.1) cd_Co_b wd_442 wd_443 wd_444 rfl rfl (by decide) d_Wo_find_35) (rz_cons (rz_if_eq G d_Wo_find_38 (by decide)) (rz_fall rfl)))))
  | 4 => (rz_cons (rz_sipush G d_Wo_find_41 (by decide)) (rz_cons (rz_iret (npc := 0) (fun _ => rfl) d_Wo_find_44) rz_nil))
  | 5 => (rz_cons (rz_aload_n G d_Wo_find_45 rfl) (rz_cons (rz_get G rfl in_Wo (by decide) wd_235 d_Wo_find_46) (rz_cons (rz_getN G rfl in_Co (by decide) wn_27 d_Wo_find_49) (rz_cons (rz_iload_n G d_Wo_find_52 rfl) (rz_cons (rz_if_eq G d_Wo_find_53 (by decide)) (rz_cons (rz_iconst G d_Wo_find_56 (by decide)) (rz_cons (rz_goto (npc := 0) G d_Wo_find_57 (by decide)) rz_nil)))))))
  | 6 => (rz_cons (rz_iconst G d_Wo_find_60 (by decide)) (rz_fall rfl))
  | 7 => (rz_cons (rz_icmp_eq G d_Wo_find_61 (by decide)) (rz_cons (rz_sipush G d_Wo_find_64 (by decide)) (rz_cons (rz_iret (npc := 0) (fun _ => rfl) d_Wo_find_67) rz_nil)))
  | 8 => (rz_cons (rz_aload_n G d_Wo_find_68 rfl) (rz_cons (rz_get G rfl in_Wo (by decide) wd_233 d_Wo_find_69) (rz_cons (rz_getN G rfl in_Me (by decide) wn_16 d_Wo_find_72) (rz_cons (rz_astore_n G d_Wo_find_75 rfl (by decide)) (rz_cons (rz_iload_n G d_Wo_find_76 rfl) (rz_cons (rz_if_eq G d_Wo_find_77 (by decide)) (rz_cons (rz_aload_n G d_Wo_find_80 rfl) (rz_cons (rz_aload_n G d_Wo_find_81 rfl) (rz_cons (rz_get G rfl in_Wo (by decide) wd_241 d_Wo_find_82) (rz_cons (rz_aload_n G d_Wo_find_85 rfl) (rz_cons (rz_get G rfl in_Wo (by decide) wd_235 d_Wo_find_86) (rz_cons (rz_cvi G (m_Co_dataAsName X.1) cd_Co_dataAsName wd_446 wd_447 wd_448 rfl rfl (by decide) d_Wo_find_89) (rz_cons (rz_cvi G (m_Fi_find X.1) cd_Fi_find wd_454 wd_455 wd_456 rfl rfl (by decide) d_Wo_find_92) (rz_cons (rz_goto (npc := 0) G d_Wo_find_95 (by decide)) rz_nil))))))))))))))
  | 9 => (rz_cons (rz_aload_n G d_Wo_find_98 rfl) (rz_cons (rz_cvi G (m_Wo_parentOfDirectory X.1) cd_Wo_parentOfDirectory wd_458 wd_460 wd_7 rfl rfl (by decide) d_Wo_find_99) (rz_fall rfl)))
  | 10 => (rz_cons (rz_istore_n G d_Wo_find_102 rfl (by decide)) (rz_cons (rz_iload_n G d_Wo_find_103 rfl) (rz_cons (rz_iconst G d_Wo_find_104 (by decide)) (rz_cons (rz_icmp_ne G d_Wo_find_105 (by decide)) (rz_cons (rz_sipush G d_Wo_find_108 (by decide)) (rz_cons (rz_iret (npc := 0) (fun _ => rfl) d_Wo_find_111) rz_nil))))))
  | 11 => (rz_cons (rz_aload_n G d_Wo_find_112 rfl) (rz_cons (rz_iload_n G d_Wo_find_113 rfl) (rz_cons (rz_cvi G (m_Fi_isDirectory X.1) cd_Fi_isDirectory wd_463 wd_280 wd_281 rfl rfl (by decide) d_Wo_find_114) (rz_cons (rz_if_eq G d_Wo_find_117 (by decide)) (rz_cons (rz_aload_n G d_Wo_find_120 rfl) (rz_cons (rz_iload_n G d_Wo_find_121 rfl) (rz_cons (rz_put G rfl in_Wo ty_Wo tyok_Wo nm_Wo (by decide) rfl (by decide +kernel) wd_241 d_Wo_find_122) (rz_cons (rz_aload_n G d_Wo_find_125 rfl) (rz_cons (rz_iconst G d_Wo_find_126 (by decide)) (rz_cons (rz_put G rfl in_Wo ty_Wo tyok_Wo nm_Wo (by decide) rfl (by decide +kernel) wd_243 d_Wo_find_127) (rz_cons (rz_goto (npc := 0) G d_Wo_find_130 (by decide)) rz_nil)))))))))))
  | 12 => (rz_cons (rz_aload_n G d_Wo_find_133 rfl) (rz_cons (rz_iload_n G d_Wo_find_134 rfl) (rz_cons (rz_put G rfl in_Wo ty_Wo tyok_Wo nm_Wo (by decide) rfl (by decide +kernel) wd_243 d_Wo_find_135) (rz_fall rfl))))
  | 13 => (rz_cons (rz_ldc G wd_464 d_Wo_find_138) (rz_cons (rz_iret (npc := 0) (fun _ => rfl) d_Wo_find_140) rz_nil))
  | _ + 14 => rz_nil
set_option maxRecDepth 100000 in
set_option maxHeartbeats 4000000 in
theorem bd_Wo_find : ∀ (Y : Nat → rz_K) (P : rz_P), (∀ b ls st μ, rz_ex P Y (bk_Wo_find b) ls st μ → Y b ls st μ) → ∀ As μ, C_Wo_find As μ P → Y 0 (rz_pad 4 (rz_ent As)) [] μ := by
  intro Y P hY As μ hC
  obtain ⟨c, rfl, hc, h1, h8, hC⟩ := hC
  have h8' : μ 7 6 ≤ 8 := by rw [hc]; exact nI_le (b := 8) h8 (by omega)
  have cc : (μ 7 6).toNatClampNeg = c := nc hc (by omega)
  have fin : ∀ (v x : Int32), PQ P (f_fi2 x μ) → Y 10 [some (.ref 5), some (.int v), some (.ref 7), none] [.int x] μ := by
    intro v x hp
    refine hY 10 _ _ _ (And.intro (fun h => ?_) (fun h => ?_))
    · have hp := rzT (PQ P) h hp
      refine hY 11 _ _ _ ⟨_, rfl, h8', And.intro (fun h2 => ?_) (fun h2 => ?_)⟩
      · exact hY 12 _ _ _ (hY 13 _ _ _ (rzF (PQ P) (b2_eq h2) hp))
      · exact hY 13 _ _ _ (rzT (PQ P) (b2_ne h2) hp)
    · exact rzN (PQ P) h hp
  by_cases ha : μ 16 2 = 0
  · have hC := rzT (PQ P) ha hC
    refine hY 0 _ _ _ (And.intro rfl (And.intro (fun h => absurd ha h) (fun _ => ?_)))
    refine hY 2 _ _ _ (And.intro (fun _ => ?_) (fun h => absurd h (by decide)))
    refine hY 3 _ _ _ (And.intro rfl (And.intro (fun h => ?_) (fun h => ?_)))
    · have hC := rzT (PQ P) h hC
      refine hY 5 _ _ _ (And.intro (fun h => absurd h (by decide)) (fun _ => ?_))
      refine hY 7 _ _ _ (And.intro (fun h => ?_) (fun h => ?_))
      · have hC := rzT (PQ P) h hC
        refine hY 8 _ _ _ (And.intro (fun h => absurd h (by decide)) (fun _ => And.intro rfl ⟨_, _, c, rfl, hc, h1, h8, ?_⟩))
        have := fin 1 _ hC
        unfold v_fnd at this
        rw [cc] at this
        exact this
      · exact rzF (PQ P) h hC
    · exact hY 4 _ _ _ (rzF (PQ P) h hC)
  · have hC := rzF (PQ P) ha hC
    refine hY 0 _ _ _ (And.intro rfl (And.intro (fun _ => hY 1 _ _ _ ?_) (fun h => absurd h ha)))
    refine hY 2 _ _ _ (And.intro (fun h => absurd rfl h) (fun _ => And.intro rfl (And.intro (fun h => ?_) (fun h => ?_))))
    · exact hY 4 _ _ _ (rzT (PQ P) h hC)
    · have hC := rzN (PQ P) h hC
      refine hY 3 _ _ _ (And.intro rfl (And.intro (fun h => ?_) (fun h => ?_)))
      · have hC := rzT (PQ P) h hC
        refine hY 5 _ _ _ (And.intro (fun _ => hY 6 _ _ _ ?_) (fun h => absurd rfl h))
        refine hY 7 _ _ _ (And.intro (fun h => ?_) (fun h => ?_))
        · have hC := rzT (PQ P) h hC
          refine hY 8 _ _ _ (And.intro (fun _ => ?_) (fun h => absurd rfl h))
          exact hY 9 _ _ _ (And.intro rfl (And.intro h8' (fin 0 _ hC)))
        · exact rzF (PQ P) h hC
      · exact hY 4 _ _ _ (rzF (PQ P) h hC)
theorem m_Wo_find (E : rz_E) : rz_MI SH CL E y_Wo_find 4 (Cond.code y_Wo_find c_Wo_find 4 (some .int) :: rz_tbl) ({ frames := 2, cells := 0, slots := 0, locals := 42 }) C_Wo_find := rz_metI (by decide) rfl (fun X _ G => sd_Wo_find X G) bd_Wo_find
theorem cd_Wo_find : rz_Cd rz_tbl y_Wo_find c_Wo_find 4 (some .int) (Cond.code y_Wo_find c_Wo_find 4 (some .int) :: rz_tbl) 0 ({ frames := 2, cells := 0, slots := 0, locals := 42 }) := ⟨rz_good wd_437, ⟨_, rfl⟩, wd_42, by decide +kernel, rfl, rfl⟩
abbrev p_ho (μ : rz_M) (f k : Int32) : Prop := ¬ f < 0 ∧ ¬ μ 7 6 ≤ f ∧ ¬ k < 0 ∧ ¬ μ 10 f.toNatClampNeg ≤ k
def v_test (p a : Int32) (μ : rz_M) : Int32 := if ¬ μ 5 5 = -1 then (if ¬ a = 0 then (if p_ho μ (μ 5 5) p then 36864 else 27392) else 27010) else 27014
def C_Wo_testPlace : rz_C := fun As μ P => ∃ p a : Int32, As = [.ref 5, .int p, .int a] ∧ μ 7 6 ≤ 8 ∧ P (some (.int (v_test p a μ))) μ
def bk_Wo_testPlace : Nat → List rz_T := fun b => match b with
  | 0 => [tz_aload 0, tz_get SH 5 5, tz_iconst (-1), tz_icmp_ne 1, tz_sipush 27014, tz_iret]
  | 1 => [tz_iload 2, tz_if_ne 2, tz_sipush 27010, tz_iret]
  | 2 => [tz_aload 0, tz_get SH 5 0, tz_get SH 4 0, tz_aload 0, tz_get SH 5 5, tz_iload 1, tz_cv SH 2 2 3 C_Fi_hasOctet, tz_if_eq 3, tz_ldc 36864, tz_goto 4]
  | 3 => [tz_sipush 27392, tz_fall 4]
  | 4 => [tz_iret]
  | _ => []
def bp_Wo_testPlace : Nat → Nat := fun b => match b with
  | 0 => 0
  | 1 => 12
  | 2 => 20
  | 3 => 43
  | 4 => 46
  | _ => 0
set_option maxRecDepth 100000 in
set_option maxHeartbeats 4000000 in
theorem sd_Wo_testPlace (X : rz_X) (G : rz_Cx CL X c_Wo_testPlace 3 rz_tbl R_Wo ({ frames := 1, cells := 0, slots := 0, locals := 22 })) : ∀ b, rz_SB SH CL X bp_Wo_testPlace (rz_RI SH CL X c_Wo_testPlace (fun v => narrow .int (.int v) = .int v)) (bk_Wo_testPlace b) (bp_Wo_testPlace b) := fun b => match b with
  | 0 => (rz_cons (rz_aload_n G d_Wo_testPlace_0 rfl) (rz_cons (rz_get G rfl in_Wo (by decide) wd_243 d_Wo_testPlace_1) (rz_cons (rz_iconst G d_Wo_testPlace_4 (by decide)) (rz_cons (rz_icmp_ne G d_Wo_testPlace_5 (by decide)) (rz_cons (rz_sipush G d_Wo_testPlace_8 (by decide)) (rz_cons (rz_iret (npc := 0) (fun _ => rfl) d_Wo_testPlace_11) rz_nil))))))
  | 1 => (rz_cons (rz_iload_n G d_Wo_testPlace_12 rfl) (rz_cons (rz_if_ne G d_Wo_testPlace_13 (by decide)) (rz_cons (rz_sipush G d_Wo_testPlace_16 (by decide)) (rz_cons (rz_iret (npc := 0) (fun _ => rfl) d_Wo_testPlace_19) rz_nil))))
  | 2 => (rz_cons (rz_aload_n G d_Wo_testPlace_20 rfl) (rz_cons (rz_get G rfl in_Wo (by decide) wd_233 d_Wo_testPlace_21) (rz_cons (rz_getN G rfl in_Me (by decide) wn_16 d_Wo_testPlace_24) (rz_cons (rz_aload_n G d_Wo_testPlace_27 rfl) (rz_cons (rz_get G rfl in_Wo (by decide) wd_243 d_Wo_testPlace_28) (rz_cons (rz_iload_n G d_Wo_testPlace_31 rfl) (rz_cons (rz_cvi G (m_Fi_hasOctet X.1) cd_Fi_hasOctet wd_486 wd_487 wd_488 rfl rfl (by decide) d_Wo_testPlace_32) (rz_cons (rz_if_eq G d_Wo_testPlace_35 (by decide)) (rz_cons (rz_ldc G wd_464 d_Wo_testPlace_38) (rz_cons (rz_goto (npc := 0) G d_Wo_testPlace_40 (by decide)) rz_nil))))))))))
  | 3 => (rz_cons (rz_sipush G d_Wo_testPlace_43 (by decide)) (rz_fall rfl))
  | 4 => (rz_cons (rz_iret (npc := 0) (fun _ => rfl) d_Wo_testPlace_46) rz_nil)
  | _ + 5 => rz_nil
set_option maxRecDepth 100000 in
set_option maxHeartbeats 4000000 in
theorem bd_Wo_testPlace : ∀ (Y : Nat → rz_K) (P : rz_P), (∀ b ls st μ, rz_ex P Y (bk_Wo_testPlace b) ls st μ → Y b ls st μ) → ∀ As μ, C_Wo_testPlace As μ P → Y 0 (rz_pad 3 (rz_ent As)) [] μ := by
  intro Y P hY As μ hC
  obtain ⟨p, a, rfl, h8, hC⟩ := hC
  refine hY 0 _ _ _ (And.intro (fun h => ?_) (fun h => rzN (fun z => P (some (.int z)) μ) h hC))
  have hC := rzT (fun z => P (some (.int z)) μ) h hC
  refine hY 1 _ _ _ (And.intro (fun h => ?_) (fun h => rzN (fun z => P (some (.int z)) μ) h hC))
  have hC := rzT (fun z => P (some (.int z)) μ) h hC
  refine hY 2 _ _ _ ⟨_, _, rfl, h8, And.intro (fun h => ?_) (fun h => ?_)⟩
  · exact hY _ _ _ _ (hY _ _ _ _ (rzF (fun z => P (some (.int z)) μ) (b2_eq h) hC))
  · exact hY _ _ _ _ (rzT (fun z => P (some (.int z)) μ) (b2_ne h) hC)
theorem m_Wo_testPlace (E : rz_E) : rz_MI SH CL E y_Wo_testPlace 3 (Cond.code y_Wo_testPlace c_Wo_testPlace 3 (some .int) :: rz_tbl) ({ frames := 1, cells := 0, slots := 0, locals := 22 }) C_Wo_testPlace := rz_metI (by decide) rfl (fun X _ G => sd_Wo_testPlace X G) bd_Wo_testPlace
theorem cd_Wo_testPlace : rz_Cd rz_tbl y_Wo_testPlace c_Wo_testPlace 3 (some .int) (Cond.code y_Wo_testPlace c_Wo_testPlace 3 (some .int) :: rz_tbl) 2 ({ frames := 1, cells := 0, slots := 0, locals := 22 }) := ⟨rz_good wd_485, ⟨_, rfl⟩, wd_42, by decide +kernel, rfl, rfl⟩
def v_plc (μ : rz_M) : Int32 := (μ 16 2 <<< ((8 : Int32) &&& 31)) ||| μ 16 3
abbrev p_mr (μ : rz_M) (f o : Int32) : Prop := (¬ f < 0 ∧ ¬ μ 7 6 ≤ f) ∧ (μ 11 f.toNatClampNeg = 0 ∨ (μ 11 f.toNatClampNeg = 1 ∧ ¬ o = 0))
abbrev p_mc (μ : rz_M) (f o : Int32) : Prop := (¬ f < 0 ∧ ¬ μ 7 6 ≤ f) ∧ (μ 12 f.toNatClampNeg = 0 ∨ (μ 12 f.toNatClampNeg = 1 ∧ ¬ o = 0))
/-- n OCTETS of the files, from the b-th on, are the answer -/
def f_rd (n b : Nat) (μ : rz_M) : rz_M := rz_up (rz_uf μ 18 (va_cpy (μ 13) (μ 18) b 0 n)) 17 1 (nI n)
def v_th (μ : rz_M) : Int32 := μ 10 (μ 5 5).toNatClampNeg - v_plc μ
def v_n (μ : rz_M) : Nat := min (v_th μ).toNatClampNeg (μ 15 4).toNatClampNeg
def f_read (μ : rz_M) : Int32 × rz_M := if 0 < μ 15 3 then (26368, μ) else if ¬ μ 15 4 = -1 then (if v_test (v_plc μ) (b2 (p_mr μ (μ 5 5) (μ 5 3))) μ = 36864 then (if μ 15 4 ≤ v_th μ then (36864, f_rd (v_n μ) (μ 5 5 * 24 + v_plc μ).toNatClampNeg μ) else (25218, f_rd (v_n μ) (μ 5 5 * 24 + v_plc μ).toNatClampNeg μ)) else (v_test (v_plc μ) (b2 (p_mr μ (μ 5 5) (μ 5 3))) μ, μ)) else (26368, μ)
theorem v_test_ok {p a : Int32} {μ : rz_M} (h : v_test p a μ = 36864) : p_ho μ (μ 5 5) p := by
  unfold v_test at h
  split at h
  · split at h
    · split at h
      · next q => exact q
      · exact absurd h (by decide)
    · exact absurd h (by decide)
  · exact absurd h (by decide)
def C_Wo_read : rz_C := fun As μ P => As = [.ref 5] ∧ μ 7 6 ≤ 8 ∧ (∀ i, i < 8 → ∃ z : Nat, z ≤ 24 ∧ μ 10 i = nI z) ∧ μ 17 1 = 0 ∧ (μ 15 4 = -1 ∨ ∃ e : Nat, e ≤ 255 ∧ μ 15 4 = nI e) ∧ PQ P (f_read μ)
def bk_Wo_read : Nat → List rz_T := fun b => match b with
  | 0 => [tz_aload 0, tz_get SH 5 1, tz_get SH 1 3, tz_if_gt 1, tz_aload 0, tz_get SH 5 1, tz_get SH 1 4, tz_iconst (-1), tz_icmp_ne 2, tz_fall 1]
  | 1 => [tz_sipush 26368, tz_iret]
  | 2 => [tz_aload 0, tz_get SH 5 1, tz_cv SH 0 1 1 C_Co_place, tz_istore 1, tz_aload 0, tz_iload 1, tz_aload 0, tz_get SH 5 0, tz_get SH 4 0, tz_aload 0, tz_get SH 5 5, tz_aload 0, tz_get SH 5 3, tz_cv SH 2 2 3 C_Fi_mayRead, tz_cv SH 2 5 3 C_Wo_testPlace, tz_istore 2, tz_iload 2, tz_ldc 36864, tz_icmp_eq 3, tz_iload 2, tz_iret]
  | 3 => [tz_aload 0, tz_get SH 5 0, tz_get SH 4 0, tz_get SH 2 2, tz_aload 0, tz_get SH 5 5, tz_iald SH, tz_iload 1, tz_isub, tz_istore 3, tz_iload 3, tz_aload 0, tz_get SH 5 1, tz_get SH 1 4, tz_min, tz_istore 4, tz_iconst 0, tz_istore 5, tz_fall 4]
  | 4 => [tz_iload 5, tz_iload 4, tz_icmp_ge 5, tz_aload 0, tz_get SH 5 2, tz_aload 0, tz_get SH 5 0, tz_get SH 4 0, tz_aload 0, tz_get SH 5 5, tz_iload 1, tz_iload 5, tz_iadd, tz_cv SH 2 2 3 C_Fi_octet, tz_cv SH 1 0 2 C_An_add, tz_iinc 5 1, tz_goto 4]
  | 5 => [tz_iload 3, tz_aload 0, tz_get SH 5 1, tz_get SH 1 4, tz_icmp_ge 6, tz_sipush 25218, tz_goto 7]
  | 6 => [tz_ldc 36864, tz_fall 7]
  | 7 => [tz_iret]
  | _ => []
def bp_Wo_read : Nat → Nat := fun b => match b with
  | 0 => 0
  | 1 => 21
  | 2 => 25
  | 3 => 65
  | 4 => 99
  | 5 => 137
  | 6 => 154
  | 7 => 156
  | _ => 0
set_option maxRecDepth 100000 in
set_option maxHeartbeats 4000000 in
theorem sd_Wo_read (X : rz_X) (G : rz_Cx CL X c_Wo_read 6 rz_tbl R_Wo ({ frames := 2, cells := 0, slots := 0, locals := 44 })) : ∀ b, rz_SB SH CL X bp_Wo_read (rz_RI SH CL X c_Wo_read (fun v => narrow .int (.int v) = .int v)) (bk_Wo_read b) (bp_Wo_read b) := fun b => match b with
  | 0 => (rz_cons (rz_aload_n G d_Wo_read_0 rfl) (rz_cons (rz_get G rfl in_Wo (by decide) wd_235 d_Wo_read_1) (rz_cons (rz_getN G rfl in_Co (by decide) wn_27 d_Wo_read_4) (rz_cons (rz_if_gt G d_Wo_read_7 (by decide)) (rz_cons (rz_aload_n G d_Wo_read_10 rfl) (rz_cons (rz_get G rfl in_Wo (by decide) wd_235 d_Wo_read_11) (rz_cons (rz_getN G rfl in_Co (by decide) wn_28 d_Wo_read_14) (rz_cons (rz_iconst G d_Wo_read_17 (by decide)) (rz_cons (rz_icmp_ne G d_Wo_read_18 (by decide)) (rz_fall rfl))))))))))
  | 1 => (rz_cons (rz_sipush G d_Wo_read_21 (by decide)) (rz_cons (rz_iret (npc := 0) (fun _ => rfl) d_Wo_read_24) rz_nil))
  | 2 => (rz_cons (rz_aload_n G d_Wo_read_25 rfl) (rz_cons (rz_get G rfl in_Wo (by decide) wd_235 d_Wo_read_26) (rz_cons (rz_cvi G (m_Co_place X.1) cd_Co_place wd_469 wd_470 wd_471 rfl rfl (by decide) d_Wo_read_29) (rz_cons (rz_istore_n G d_Wo_read_32 rfl (by decide)) (rz_cons (rz_aload_n G d_Wo_read_33 rfl) (rz_cons (rz_iload_n G d_Wo_read_34 rfl) (rz_cons (rz_aload_n G d_Wo_read_35 rfl) (rz_cons (rz_get G rfl in_Wo (by decide) wd_233 d_Wo_read_36) (rz_cons (rz_getN G rfl in_Me (by decide) wn_16 d_Wo_read_39) (rz_cons (rz_aload_n G d_Wo_read_42 rfl) (rz_cons (rz_get G rfl in_Wo (by decide) wd_243 d_Wo_read_43) (rz_cons (rz_aload_n G d_Wo_read_46 rfl) (rz_cons (rz_get G rfl in_Wo (by decide) wd_239 d_Wo_read_47) (rz_cons (rz_cvi G (m_Fi_mayRead X.1) cd_Fi_mayRead wd_475 wd_476 wd_477 rfl rfl (by decide) d_Wo_read_50) (rz_cons (rz_cvi G (m_Wo_testPlace X.1) cd_Wo_testPlace wd_482 wd_484 wd_9 rfl rfl (by decide) d_Wo_read_53) (rz_cons (rz_istore_n G d_Wo_read_56 rfl (by decide)) (rz_cons (rz_iload_n G d_Wo_read_57 rfl) (rz_cons (rz_ldc G wd_464 d_Wo_read_58) (rz_cons (rz_icmp_eq G d_Wo_read_60 (by decide)) (rz_cons (rz_iload_n G d_Wo_read_63 rfl) (rz_cons (rz_iret (npc := 0) (fun _ => rfl) d_Wo_read_64) rz_nil)))))))))))))))))))))
  | 3 => (rz_cons (rz_aload_n G d_Wo_read_65 rfl) (rz_cons (rz_get G rfl in_Wo (by decide) wd_233 d_Wo_read_66) (rz_cons (rz_getN G rfl in_Me (by decide) wn_16 d_Wo_read_69) (rz_cons (rz_getN G rfl in_Fi (by decide) wn_10 d_Wo_read_72) (rz_cons (rz_aload_n G d_Wo_read_75 rfl) (rz_cons (rz_get G rfl in_Wo (by decide) wd_243 d_Wo_read_76) (rz_cons (rz_iald G d_Wo_read_79) (rz_cons (rz_iload_n G d_Wo_read_80 rfl) (rz_cons (rz_isub G d_Wo_read_81) (rz_cons (rz_istore_n G d_Wo_read_82 rfl (by decide)) (rz_cons (rz_iload_n G d_Wo_read_83 rfl) (rz_cons (rz_aload_n G d_Wo_read_84 rfl) (rz_cons (rz_get G rfl in_Wo (by decide) wd_235 d_Wo_read_85) (rz_cons (rz_getN G rfl in_Co (by decide) wn_28 d_Wo_read_88) (rz_cons (rz_min G wd_490 wd_491 wd_48 wd_492 (by decide) d_Wo_read_91) (rz_cons (rz_istore G d_Wo_read_94 (by decide)) (rz_cons (rz_iconst G d_Wo_read_96 (by decide)) (rz_cons (rz_istore G d_Wo_read_97 (by decide)) (rz_fall rfl)))))))))))))))))))
  | 4 => (rz_cons (rz_iload G d_Wo_read_99) (rz_cons (rz_iload G d_Wo_read_101) (rz_cons (rz_icmp_ge G d_Wo_read_103 (by decide)) (rz_cons (rz_aload_n G d_Wo_read_106 rfl) (rz_cons (rz_get G rfl in_Wo (by decide) wd_237 d_Wo_read_107) (rz_cons (rz_aload_n G d_Wo_read_110 rfl) (rz_cons (rz_get G rfl in_Wo (by decide) wd_233 d_Wo_read_111) (rz_cons (rz_getN G rfl in_Me (by decide) wn_16 d_Wo_read_114) (rz_cons (rz_aload_n G d_Wo_read_117 rfl) (rz_cons (rz_get G rfl in_Wo (by decide) wd_243 d_Wo_read_118) (rz_cons (rz_iload_n G d_Wo_read_121 rfl) (rz_cons (rz_iload G d_Wo_read_122) (rz_cons (rz_iadd G d_Wo_read_124) (rz_cons (rz_cvi G (m_Fi_octet X.1) cd_Fi_octet wd_493 wd_494 wd_495 rfl rfl (by decide) d_Wo_read_125) (rz_cons (rz_cvv G (m_An_add X.1) cd_An_add wd_498 wd_499 wd_500 rfl rfl (by decide) d_Wo_read_128) (rz_cons (rz_iinc G d_Wo_read_131 (by decide) (by decide)) (rz_cons (rz_goto (npc := 0) G d_Wo_read_134 (by decide)) rz_nil)))))))))))))))))
  | 5 => (rz_cons (rz_iload_n G d_Wo_read_137 rfl) (rz_cons (rz_aload_n G d_Wo_read_138 rfl) (rz_cons (rz_get G rfl in_Wo (by decide) wd_235 d_Wo_read_139) (rz_cons (rz_getN G rfl in_Co (by decide) wn_28 d_Wo_read_142) (rz_cons (rz_icmp_ge G d_Wo_read_145 (by decide)) (rz_cons (rz_sipush G d_Wo_read_148 (by decide)) (rz_cons (rz_goto (npc := 0) G d_Wo_read_151 (by decide)) rz_nil)))))))
  | 6 => (rz_cons (rz_ldc G wd_464 d_Wo_read_154) (rz_fall rfl))
  | 7 => (rz_cons (rz_iret (npc := 0) (fun _ => rfl) d_Wo_read_156) rz_nil)
  | _ + 8 => rz_nil
set_option maxRecDepth 100000 in
set_option maxHeartbeats 4000000 in
theorem bd_Wo_read : ∀ (Y : Nat → rz_K) (P : rz_P), (∀ b ls st μ, rz_ex P Y (bk_Wo_read b) ls st μ → Y b ls st μ) → ∀ As μ, C_Wo_read As μ P → Y 0 (rz_pad 6 (rz_ent As)) [] μ := by
  intro Y P hY As μ hC
  obtain ⟨rfl, h8, hz, h17, hex, hC⟩ := hC
  refine hY 0 _ _ _ (And.intro (fun h => hY 1 _ _ _ (rzT (PQ P) h hC)) (fun h => ?_))
  have hC := rzF (PQ P) h hC
  refine And.intro (fun h => ?_) (fun h => hY 1 _ _ _ (rzN (PQ P) h hC))
  have hC := rzT (PQ P) h hC
  refine hY 2 _ _ _ (And.intro rfl ⟨_, _, rfl, h8, _, _, rfl, h8, And.intro (fun h2 => ?_) (fun h2 => rzF (PQ P) h2 hC)⟩)
  have hC := rzT (PQ P) h2 hC
  obtain ⟨k0, k1, k2, k3⟩ := v_test_ok h2
  obtain ⟨f, hf⟩ := nI_of k0
  obtain ⟨p, hp⟩ := nI_of k2
  obtain ⟨e, he⟩ := hex.resolve_left h
  have hf8 : f < 8 := by
    have : nI f < 8 := by rw [← hf.2]; exact Int32.lt_of_lt_of_le (Int32.not_le.mp k1) h8
    exact (nI_ltI (b := 8) hf.1 (by omega)).mp this
  obtain ⟨z, hz24, hzz⟩ := hz f hf8
  have cf : (μ 5 5).toNatClampNeg = f := nc hf.2 hf.1
  have hpz : p < z := by
    rw [cf, hzz] at k3
    have hp2 : v_plc μ = nI p := hp.2
    have : ¬ nI z ≤ nI p := by rw [← hp2]; exact k3
    rcases Nat.lt_or_ge p z with q | q
    · exact q
    · exact absurd (nI_le q hp.1) this
  have hp2 : v_plc μ = nI p := hp.2
  have hth : v_th μ = nI (z - p) := by unfold v_th; rw [cf, hzz, hp2]; exact pk_sub (by omega)
  have hb : (μ 5 5 * 24 + v_plc μ).toNatClampNeg = f * 24 + p := by
    rw [hf.2, hp2, show (24 : Int32) = nI 24 from rfl, pk_mul, nI_add]; exact nI_clamp (by omega)
  have hvn : v_n μ = min (z - p) e := by unfold v_n; rw [hth, he.2, nI_clamp (by omega), nI_clamp (by omega)]
  obtain ⟨n, hn⟩ : ∃ n, n = min (z - p) e := ⟨_, rfl⟩
  rw [hvn, hb, ← hn] at hC
  have hmin : (if μ 15 4 < v_th μ then μ 15 4 else v_th μ) = nI n := by
    rw [hth, he.2]
    by_cases q : e < z - p
    · rw [if_pos (nI_lt q (by omega))]; congr 1; omega
    · rw [if_neg (nI_nlt (by omega) (by omega))]; congr 1; omega
  have loop : ∀ d i, i + d = n → Y 4 [some (.ref 5), some (.int (v_plc μ)), some (.int (v_test (v_plc μ) (b2 (p_mr μ (μ 5 5) (μ 5 3))) μ)), some (.int (v_th μ)), some (.int (nI n)), some (.int (nI i))] [] (f_rd i (f * 24 + p) μ) := by
    intro d
    induction d with
    | zero =>
      intro i hi
      have : i = n := by omega
      subst this
      refine hY 4 _ _ _ (And.intro (fun _ => ?_) (fun h => absurd (Int32.le_refl _) h))
      refine hY 5 _ _ _ (And.intro (fun (h : μ 15 4 ≤ v_th μ) => ?_) (fun (h : ¬ μ 15 4 ≤ v_th μ) => ?_))
      · exact hY _ _ _ _ (hY _ _ _ _ (rzT (PQ P) h hC))
      · exact hY _ _ _ _ (rzF (PQ P) h hC)
    | succ d ih =>
      intro i hi
      have e1 : v_plc μ + nI i = nI (p + i) := by rw [hp2, nI_add]
      refine hY 4 _ _ _ (And.intro (fun h => absurd h (nI_ge (by omega) (by omega))) (fun _ => ⟨μ 5 5, v_plc μ + nI i, rfl, h8, ⟨k0, k1, ?_, ?_⟩, ?_, _, rfl, ?_, ?_⟩))
      · rw [e1]; exact nI_pos (by omega)
      · show ¬ μ 10 (μ 5 5).toNatClampNeg ≤ v_plc μ + nI i
        rw [e1, cf, hzz]; exact nI_ge (by omega) (by omega)
      · rw [e1]; exact nI_ge (a := p + i) (b := 24) (by omega) (by omega)
      · exact nI_pos' (n := i) (by omega)
      · have e2 : (μ 5 5 * 24 + (v_plc μ + nI i)).toNatClampNeg = f * 24 + p + i := by
          rw [e1, hf.2, show (24 : Int32) = nI 24 from rfl, pk_mul, nI_add, ← Nat.add_assoc]; exact nI_clamp (by omega)
        have e3 : f_An_add (f_rd i (f * 24 + p) μ 13 (μ 5 5 * 24 + (v_plc μ + nI i)).toNatClampNeg) (f_rd i (f * 24 + p) μ) = f_rd (i + 1) (f * 24 + p) μ := by
          rw [f_An_nI (a := i) rfl (by omega), e2]
          unfold f_rd
          rw [rz_up_same, rz_up_k (k' := 13) (by decide), rz_uf_ne (by decide), rz_up_comm (k := 17) (k2 := 18) (Or.inl (by decide))]
          congr 1
          funext k
          by_cases hk : k = 18
          · subst hk
            rw [rz_uf_eq]
            funext j
            by_cases hj : j = i
            · subst hj
              rw [rz_up_at, pk_cpy_in (by omega) (by omega)]
              simp
            · rw [rz_up_j hj, rz_uf_eq]
              by_cases hl : j < i
              · rw [pk_cpy_in (by omega) (by omega), pk_cpy_in (by omega) (by omega)]
              · rw [pk_cpy_out (by omega), pk_cpy_out (by omega)]
          · rw [rz_up_k hk, rz_uf_ne hk, rz_uf_ne hk]
        have := ih (i + 1) (by omega)
        rw [nI_succ, ← e3] at this
        exact this
  have h0 := loop n 0 (by omega)
  have e0 : f_rd 0 (f * 24 + p) μ = μ := by
    unfold f_rd
    have : rz_uf μ 18 (va_cpy (μ 13) (μ 18) (f * 24 + p) 0 0) = μ := by
      funext k
      by_cases hk : k = 18
      · subst hk
        rw [rz_uf_eq]
        funext j
        rw [pk_cpy_out (by omega)]
      · rw [rz_uf_ne hk]
    rw [this]
    exact rz_up_id h17
  rw [e0, ← hmin] at h0
  refine hY 3 _ _ _ (And.intro ?_ h0)
  show vp_in (μ 5 5) 8
  rw [hf.2]; exact vp_in_nI hf8 (by omega)
theorem m_Wo_read (E : rz_E) : rz_MI SH CL E y_Wo_read 6 (Cond.code y_Wo_read c_Wo_read 6 (some .int) :: rz_tbl) ({ frames := 2, cells := 0, slots := 0, locals := 44 }) C_Wo_read := rz_metI (by decide) rfl (fun X _ G => sd_Wo_read X G) bd_Wo_read
theorem cd_Wo_read : rz_Cd rz_tbl y_Wo_read c_Wo_read 6 (some .int) (Cond.code y_Wo_read c_Wo_read 6 (some .int) :: rz_tbl) 0 ({ frames := 2, cells := 0, slots := 0, locals := 44 }) := ⟨rz_good wd_468, ⟨_, rfl⟩, wd_42, by decide +kernel, rfl, rfl⟩
def f_chg2 (n : Nat) (μ : rz_M) : Int32 × rz_M := if (f_wN (μ 5 5) (v_plc μ) n μ).1 = 0 then (-1, (f_wN (μ 5 5) (v_plc μ) n μ).2) else if (f_coL n 0 (f_wN (μ 5 5) (v_plc μ) n μ).2).1 = 0 then (-1, (f_coL n 0 (f_wN (μ 5 5) (v_plc μ) n μ).2).2) else (36864, (f_coL n 0 (f_wN (μ 5 5) (v_plc μ) n μ).2).2)
def f_chg (n : Nat) (μ : rz_M) : Int32 × rz_M := if μ 15 3 = 0 then (26368, μ) else if μ 15 4 = -1 then (if v_test (v_plc μ) (b2 (p_mc μ (μ 5 5) (μ 5 3))) μ = 36864 then (if p_ho μ (μ 5 5) (v_plc μ + μ 15 3 - 1) then f_chg2 n μ else (27268, μ)) else (v_test (v_plc μ) (b2 (p_mc μ (μ 5 5) (μ 5 3))) μ, μ)) else (26368, μ)
def C_Wo_change : rz_C := fun As μ P => ∃ n : Nat, As = [.ref 5] ∧ μ 15 3 = nI n ∧ n ≤ 32 ∧ μ 7 6 ≤ 8 ∧ (∀ i, i < 8 → ∃ z : Nat, z ≤ 24 ∧ μ 10 i = nI z) ∧ PQ P (f_chg n μ)
theorem f_wN_4 {f p : Int32} {n : Nat} {μ : rz_M} (h : ¬ (f_wN f p n μ).1 = 0) : (f_wN f p n μ).2 6 4 = nI n := by
  unfold f_wN at h ⊢
  split at h
  · exact absurd rfl h
  · next q => rw [if_neg q]; rfl
def bk_Wo_change : Nat → List rz_T := fun b => match b with
  | 0 => [tz_aload 0, tz_get SH 5 1, tz_get SH 1 3, tz_if_eq 1, tz_aload 0, tz_get SH 5 1, tz_get SH 1 4, tz_iconst (-1), tz_icmp_eq 2, tz_fall 1]
  | 1 => [tz_sipush 26368, tz_iret]
  | 2 => [tz_aload 0, tz_get SH 5 1, tz_cv SH 0 1 1 C_Co_place, tz_istore 1, tz_aload 0, tz_iload 1, tz_aload 0, tz_get SH 5 0, tz_get SH 4 0, tz_aload 0, tz_get SH 5 5, tz_aload 0, tz_get SH 5 3, tz_cv SH 2 2 3 C_Fi_mayChange, tz_cv SH 2 5 3 C_Wo_testPlace, tz_istore 2, tz_iload 2, tz_ldc 36864, tz_icmp_eq 3, tz_iload 2, tz_iret]
  | 3 => [tz_aload 0, tz_get SH 5 0, tz_get SH 4 0, tz_aload 0, tz_get SH 5 5, tz_iload 1, tz_aload 0, tz_get SH 5 1, tz_get SH 1 3, tz_iadd, tz_iconst 1, tz_isub, tz_cv SH 2 2 3 C_Fi_hasOctet, tz_if_ne 4, tz_sipush 27268, tz_iret]
  | 4 => [tz_aload 0, tz_get SH 5 0, tz_aload 0, tz_get SH 5 5, tz_iload 1, tz_aload 0, tz_get SH 5 1, tz_cv SH 3 4 6 C_Me_writeNote, tz_if_eq 5, tz_aload 0, tz_get SH 5 0, tz_cv SH 0 4 2 C_Me_carryOutNote, tz_if_eq 5, tz_ldc 36864, tz_goto 6]
  | 5 => [tz_iconst (-1), tz_fall 6]
  | 6 => [tz_iret]
  | _ => []
def bp_Wo_change : Nat → Nat := fun b => match b with
  | 0 => 0
  | 1 => 21
  | 2 => 25
  | 3 => 65
  | 4 => 97
  | 5 => 131
  | 6 => 132
  | _ => 0
set_option maxRecDepth 100000 in
set_option maxHeartbeats 4000000 in
theorem sd_Wo_change (X : rz_X) (G : rz_Cx CL X c_Wo_change 3 rz_tbl R_Wo ({ frames := 2, cells := 0, slots := 0, locals := 46 })) : ∀ b, rz_SB SH CL X bp_Wo_change (rz_RI SH CL X c_Wo_change (fun v => narrow .int (.int v) = .int v)) (bk_Wo_change b) (bp_Wo_change b) := fun b => match b with
  | 0 => (rz_cons (rz_aload_n G d_Wo_change_0 rfl) (rz_cons (rz_get G rfl in_Wo (by decide) wd_235 d_Wo_change_1) (rz_cons (rz_getN G rfl in_Co (by decide) wn_27 d_Wo_change_4) (rz_cons (rz_if_eq G d_Wo_change_7 (by decide)) (rz_cons (rz_aload_n G d_Wo_change_10 rfl) (rz_cons (rz_get G rfl in_Wo (by decide) wd_235 d_Wo_change_11) (rz_cons (rz_getN G rfl in_Co (by decide) wn_28 d_Wo_change_14) (rz_cons (rz_iconst G d_Wo_change_17 (by decide)) (rz_cons (rz_icmp_eq G d_Wo_change_18 (by decide)) (rz_fall rfl))))))))))
  | 1 => (rz_cons (rz_sipush G d_Wo_change_21 (by decide)) (rz_cons (rz_iret (npc := 0) (fun _ => rfl) d_Wo_change_24) rz_nil))
  | 2 => (rz_cons (rz_aload_n G d_Wo_change_25 rfl) (rz_cons (rz_get G rfl in_Wo (by decide) wd_235 d_Wo_change_26) (rz_cons (rz_cvi G (m_Co_place X.1) cd_Co_place wd_469 wd_470 wd_471 rfl rfl (by decide) d_Wo_change_29) (rz_cons (rz_istore_n G d_Wo_change_32 rfl (by decide)) (rz_cons (rz_aload_n G d_Wo_change_33 rfl) (rz_cons (rz_iload_n G d_Wo_change_34 rfl) (rz_cons (rz_aload_n G d_Wo_change_35 rfl) (rz_cons (rz_get G rfl in_Wo (by decide) wd_233 d_Wo_change_36) (rz_cons (rz_getN G rfl in_Me (by decide) wn_16 d_Wo_change_39) (rz_cons (rz_aload_n G d_Wo_change_42 rfl) (rz_cons (rz_get G rfl in_Wo (by decide) wd_243 d_Wo_change_43) (rz_cons (rz_aload_n G d_Wo_change_46 rfl) (rz_cons (rz_get G rfl in_Wo (by decide) wd_239 d_Wo_change_47) (rz_cons (rz_cvi G (m_Fi_mayChange X.1) cd_Fi_mayChange wd_506 wd_507 wd_508 rfl rfl (by decide) d_Wo_change_50) (rz_cons (rz_cvi G (m_Wo_testPlace X.1) cd_Wo_testPlace wd_482 wd_484 wd_9 rfl rfl (by decide) d_Wo_change_53) (rz_cons (rz_istore_n G d_Wo_change_56 rfl (by decide)) (rz_cons (rz_iload_n G d_Wo_change_57 rfl) (rz_cons (rz_ldc G wd_464 d_Wo_change_58) (rz_cons (rz_icmp_eq G d_Wo_change_60 (by decide)) (rz_cons (rz_iload_n G d_Wo_change_63 rfl) (rz_cons (rz_iret (npc := 0) (fun _ => rfl) d_Wo_change_64) rz_nil)))))))))))))))))))))
  | 3 => (rz_cons (rz_aload_n G d_Wo_change_65 rfl) (rz_cons (rz_get G rfl in_Wo (by decide) wd_233 d_Wo_change_66) (rz_cons (rz_getN G rfl in_Me (by decide) wn_16 d_Wo_change_69) (rz_cons (rz_aload_n G d_Wo_change_72 rfl) (rz_cons (rz_get G rfl in_Wo (by decide) wd_243 d_Wo_change_73) (rz_cons (rz_iload_n G d_Wo_change_76 rfl) (rz_cons (rz_aload_n G d_Wo_change_77 rfl) (rz_cons (rz_get G rfl in_Wo (by decide) wd_235 d_Wo_change_78) (rz_cons (rz_getN G rfl in_Co (by decide) wn_27 d_Wo_change_81) (rz_cons (rz_iadd G d_Wo_change_84) (rz_cons (rz_iconst G d_Wo_change_85 (by decide)) (rz_cons (rz_isub G d_Wo_change_86) (rz_cons (rz_cvi G (m_Fi_hasOctet X.1) cd_Fi_hasOctet wd_486 wd_487 wd_488 rfl rfl (by decide) d_Wo_change_87) (rz_cons (rz_if_ne G d_Wo_change_90 (by decide)) (rz_cons (rz_sipush G d_Wo_change_93 (by decide)) (rz_cons (rz_iret (npc := 0) (fun _ => rfl) d_Wo_change_96) rz_nil))))))))))))))))
  | 4 => (rz_cons (rz_aload_n G d_Wo_change_97 rfl) (rz_cons (rz_get G rfl in_Wo (by decide) wd_233 d_Wo_change_98) (rz_cons (rz_aload_n G d_Wo_change_101 rfl) (rz_cons (rz_get G rfl in_Wo (by decide) wd_243 d_Wo_change_102) (rz_cons (rz_iload_n G d_Wo_change_105 rfl) (rz_cons (rz_aload_n G d_Wo_change_106 rfl) (rz_cons (rz_get G rfl in_Wo (by decide) wd_235 d_Wo_change_107) (rz_cons (rz_cvi G (m_Me_writeNote X.1) cd_Me_writeNote wd_510 wd_511 wd_512 rfl rfl (by decide) d_Wo_change_110) (rz_cons (rz_if_eq G d_Wo_change_113 (by decide)) (rz_cons (rz_aload_n G d_Wo_change_116 rfl) (rz_cons (rz_get G rfl in_Wo (by decide) wd_233 d_Wo_change_117) (rz_cons (rz_cvi G (m_Me_carryOutNote X.1) cd_Me_carryOutNote wd_516 wd_331 wd_332 rfl rfl (by decide) d_Wo_change_120) (rz_cons (rz_if_eq G d_Wo_change_123 (by decide)) (rz_cons (rz_ldc G wd_464 d_Wo_change_126) (rz_cons (rz_goto (npc := 0) G d_Wo_change_128 (by decide)) rz_nil)))))))))))))))
  | 5 => (rz_cons (rz_iconst G d_Wo_change_131 (by decide)) (rz_fall rfl))
  | 6 => (rz_cons (rz_iret (npc := 0) (fun _ => rfl) d_Wo_change_132) rz_nil)
  | _ + 7 => rz_nil
set_option maxRecDepth 100000 in
set_option maxHeartbeats 4000000 in
theorem bd_Wo_change : ∀ (Y : Nat → rz_K) (P : rz_P), (∀ b ls st μ, rz_ex P Y (bk_Wo_change b) ls st μ → Y b ls st μ) → ∀ As μ, C_Wo_change As μ P → Y 0 (rz_pad 3 (rz_ent As)) [] μ := by
  intro Y P hY As μ hC
  obtain ⟨n, rfl, hn, h32, h8, hz, hC⟩ := hC
  refine hY 0 _ _ _ (And.intro (fun h => hY 1 _ _ _ (rzT (PQ P) h hC)) (fun h0 => ?_))
  have hC := rzF (PQ P) h0 hC
  refine And.intro (fun h => ?_) (fun h => hY 1 _ _ _ (rzF (PQ P) h hC))
  have hC := rzT (PQ P) h hC
  refine hY 2 _ _ _ (And.intro rfl ⟨_, _, rfl, h8, _, _, rfl, h8, And.intro (fun h2 => ?_) (fun h2 => rzF (PQ P) h2 hC)⟩)
  have hC := rzT (PQ P) h2 hC
  refine hY 3 _ _ _ ⟨μ 5 5, v_plc μ + μ 15 3 - 1, rfl, h8, And.intro (fun h3 => ?_) (fun h3 => rzF (PQ P) (b2_eq h3) hC)⟩
  have hC := rzT (PQ P) (b2_ne h3) hC
  obtain ⟨k0, k1, k2, k3⟩ := v_test_ok h2
  obtain ⟨-, -, j2, j3⟩ := b2_ne h3
  obtain ⟨f, hf⟩ := nI_of k0
  obtain ⟨p, hp⟩ := nI_of k2
  have hp2 : v_plc μ = nI p := hp.2
  have hf8 : f < 8 := by
    have : nI f < 8 := by rw [← hf.2]; exact Int32.lt_of_lt_of_le (Int32.not_le.mp k1) h8
    exact (nI_ltI (b := 8) hf.1 (by omega)).mp this
  obtain ⟨z, hz24, hzz⟩ := hz f hf8
  have cf : (μ 5 5).toNatClampNeg = f := nc hf.2 hf.1
  have hpz : p < z := by
    rw [cf, hzz] at k3
    have : ¬ nI z ≤ nI p := by rw [← hp2]; exact k3
    rcases Nat.lt_or_ge p z with q | q
    · exact q
    · exact absurd (nI_le q hp.1) this
  have hn0 : 1 ≤ n := by
    rcases Nat.eq_zero_or_pos n with q | q
    · rw [q] at hn; exact absurd hn h0
    · exact q
  have hpn : v_plc μ + μ 15 3 - 1 = nI (p + n - 1) := by
    rw [hp2, hn, nI_add, show p + n = (p + n - 1) + 1 by omega, nI_pred]; congr 1
  have hn24 : n ≤ 24 := by
    rw [cf, hzz, hpn] at j3
    rcases Nat.lt_or_ge (p + n - 1) z with q | q
    · omega
    · exact absurd (nI_le q (by omega)) j3
  refine hY 4 _ _ _ ⟨_, _, n, rfl, hn, hn24, And.intro (fun h4 => ?_) (fun h4 => ?_)⟩
  · exact hY _ _ _ _ (hY _ _ _ _ (rzT (PQ P) h4 hC))
  · have hC := rzF (PQ P) h4 hC
    refine ⟨n, rfl, f_wN_4 h4, hn24, And.intro (fun h5 => ?_) (fun h5 => ?_)⟩
    · exact hY _ _ _ _ (hY _ _ _ _ (rzT (PQ P) h5 hC))
    · exact hY _ _ _ _ (rzF (PQ P) h5 hC)
theorem m_Wo_change (E : rz_E) : rz_MI SH CL E y_Wo_change 3 (Cond.code y_Wo_change c_Wo_change 3 (some .int) :: rz_tbl) ({ frames := 2, cells := 0, slots := 0, locals := 46 }) C_Wo_change := rz_metI (by decide) rfl (fun X _ G => sd_Wo_change X G) bd_Wo_change
theorem cd_Wo_change : rz_Cd rz_tbl y_Wo_change c_Wo_change 3 (some .int) (Cond.code y_Wo_change c_Wo_change 3 (some .int) :: rz_tbl) 0 ({ frames := 2, cells := 0, slots := 0, locals := 46 }) := ⟨rz_good wd_505, ⟨_, rfl⟩, wd_42, by decide +kernel, rfl, rfl⟩
def f_cmp1 (μ : rz_M) : rz_M := rz_up (f_w μ) 6 7 (μ 6 7 - 1)
def f_cmp (x : Int32) (μ : rz_M) : Int32 × rz_M := if ¬ μ 6 10 = 0 then (if x = μ 6 6 then (if ¬ f_cmp1 μ 6 10 = 0 then (36864, rz_up (rz_up (f_w (f_cmp1 μ)) 6 7 3) 5 3 1) else (-1, f_w (f_cmp1 μ))) else (25536 + (μ 6 7 - 1), rz_up (f_cmp1 μ) 5 3 0)) else (-1, f_w μ)
def C_Wo_compareSecret : rz_C := fun As μ P => ∃ x : Int32, As = [.ref 5, .int x] ∧ PQ P (f_cmp x μ)
def bk_Wo_compareSecret : Nat → List rz_T := fun b => match b with
  | 0 => [tz_aload 0, tz_get SH 5 0, tz_cv SH 0 4 1 C_Me_mayWrite, tz_if_ne 1, tz_iconst (-1), tz_iret]
  | 1 => [tz_aload 0, tz_get SH 5 0, tz_dup, tz_get SH 4 7, tz_iconst 1, tz_isub, tz_put SH 4 7, tz_iload 1, tz_aload 0, tz_get SH 5 0, tz_get SH 4 6, tz_icmp_eq 2, tz_aload 0, tz_iconst 0, tz_putz SH 5 3, tz_sipush 25536, tz_aload 0, tz_get SH 5 0, tz_get SH 4 7, tz_iadd, tz_iret]
  | 2 => [tz_aload 0, tz_get SH 5 0, tz_cv SH 0 4 1 C_Me_mayWrite, tz_if_ne 3, tz_iconst (-1), tz_iret]
  | 3 => [tz_aload 0, tz_get SH 5 0, tz_iconst 3, tz_put SH 4 7, tz_aload 0, tz_iconst 1, tz_putz SH 5 3, tz_ldc 36864, tz_iret]
  | _ => []
def bp_Wo_compareSecret : Nat → Nat := fun b => match b with
  | 0 => 0
  | 1 => 12
  | 2 => 53
  | 3 => 65
  | _ => 0
set_option maxRecDepth 100000 in
set_option maxHeartbeats 4000000 in
theorem sd_Wo_compareSecret (X : rz_X) (G : rz_Cx CL X c_Wo_compareSecret 2 rz_tbl R_Wo ({ frames := 1, cells := 0, slots := 0, locals := 20 })) : ∀ b, rz_SB SH CL X bp_Wo_compareSecret (rz_RI SH CL X c_Wo_compareSecret (fun v => narrow .int (.int v) = .int v)) (bk_Wo_compareSecret b) (bp_Wo_compareSecret b) := fun b => match b with
  | 0 => (rz_cons (rz_aload_n G d_Wo_compareSecret_0 rfl) (rz_cons (rz_get G rfl in_Wo (by decide) wd_233 d_Wo_compareSecret_1) (rz_cons (rz_cvi G (m_Me_mayWrite X.1) cd_Me_mayWrite wd_529 wd_335 wd_336 rfl rfl (by decide) d_Wo_compareSecret_4) (rz_cons (rz_if_ne G d_Wo_compareSecret_7 (by decide)) (rz_cons (rz_iconst G d_Wo_compareSecret_10 (by decide)) (rz_cons (rz_iret (npc := 0) (fun _ => rfl) d_Wo_compareSecret_11) rz_nil))))))
  | 1 => (rz_cons (rz_aload_n G d_Wo_compareSecret_12 rfl) (rz_cons (rz_get G rfl in_Wo (by decide) wd_233 d_Wo_compareSecret_13) (rz_cons (rz_dup G d_Wo_compareSecret_16) (rz_cons (rz_getN G rfl in_Me (by decide) wn_21 d_Wo_compareSecret_17) (rz_cons (rz_iconst G d_Wo_compareSecret_20 (by decide)) (rz_cons (rz_isub G d_Wo_compareSecret_21) (rz_cons (rz_putN G rfl in_Me ty_Me tyok_Me nm_Me (by decide) rfl (by decide +kernel) wn_21 d_Wo_compareSecret_22) (rz_cons (rz_iload_n G d_Wo_compareSecret_25 rfl) (rz_cons (rz_aload_n G d_Wo_compareSecret_26 rfl) (rz_cons (rz_get G rfl in_Wo (by decide) wd_233 d_Wo_compareSecret_27) (rz_cons (rz_getN G rfl in_Me (by decide) wn_19 d_Wo_compareSecret_30) (rz_cons (rz_icmp_eq G d_Wo_compareSecret_33 (by decide)) (rz_cons (rz_aload_n G d_Wo_compareSecret_36 rfl) (rz_cons (rz_iconst G d_Wo_compareSecret_37 (by decide)) (rz_cons (rz_putz G rfl in_Wo ty_Wo tyok_Wo nm_Wo (by decide) rfl (by decide +kernel) wd_239 d_Wo_compareSecret_38) (rz_cons (rz_sipush G d_Wo_compareSecret_41 (by decide)) (rz_cons (rz_aload_n G d_Wo_compareSecret_44 rfl) (rz_cons (rz_get G rfl in_Wo (by decide) wd_233 d_Wo_compareSecret_45) (rz_cons (rz_getN G rfl in_Me (by decide) wn_21 d_Wo_compareSecret_48) (rz_cons (rz_iadd G d_Wo_compareSecret_51) (rz_cons (rz_iret (npc := 0) (fun _ => rfl) d_Wo_compareSecret_52) rz_nil)))))))))))))))))))))
  | 2 => (rz_cons (rz_aload_n G d_Wo_compareSecret_53 rfl) (rz_cons (rz_get G rfl in_Wo (by decide) wd_233 d_Wo_compareSecret_54) (rz_cons (rz_cvi G (m_Me_mayWrite X.1) cd_Me_mayWrite wd_529 wd_335 wd_336 rfl rfl (by decide) d_Wo_compareSecret_57) (rz_cons (rz_if_ne G d_Wo_compareSecret_60 (by decide)) (rz_cons (rz_iconst G d_Wo_compareSecret_63 (by decide)) (rz_cons (rz_iret (npc := 0) (fun _ => rfl) d_Wo_compareSecret_64) rz_nil))))))
  | 3 => (rz_cons (rz_aload_n G d_Wo_compareSecret_65 rfl) (rz_cons (rz_get G rfl in_Wo (by decide) wd_233 d_Wo_compareSecret_66) (rz_cons (rz_iconst G d_Wo_compareSecret_69 (by decide)) (rz_cons (rz_putN G rfl in_Me ty_Me tyok_Me nm_Me (by decide) rfl (by decide +kernel) wn_21 d_Wo_compareSecret_70) (rz_cons (rz_aload_n G d_Wo_compareSecret_73 rfl) (rz_cons (rz_iconst G d_Wo_compareSecret_74 (by decide)) (rz_cons (rz_putz G rfl in_Wo ty_Wo tyok_Wo nm_Wo (by decide) rfl (by decide +kernel) wd_239 d_Wo_compareSecret_75) (rz_cons (rz_ldc G wd_464 d_Wo_compareSecret_78) (rz_cons (rz_iret (npc := 0) (fun _ => rfl) d_Wo_compareSecret_80) rz_nil)))))))))
  | _ + 4 => rz_nil
set_option maxRecDepth 100000 in
set_option maxHeartbeats 4000000 in
theorem bd_Wo_compareSecret : ∀ (Y : Nat → rz_K) (P : rz_P), (∀ b ls st μ, rz_ex P Y (bk_Wo_compareSecret b) ls st μ → Y b ls st μ) → ∀ As μ, C_Wo_compareSecret As μ P → Y 0 (rz_pad 2 (rz_ent As)) [] μ := by
  intro Y P hY As μ hC
  obtain ⟨x, rfl, hC⟩ := hC
  have e7 : f_w μ 6 7 = μ 6 7 := f_w_6 (by decide) (by decide) (by decide)
  have e6 : f_w μ 6 6 = μ 6 6 := f_w_6 (by decide) (by decide) (by decide)
  have ec : rz_up (f_w μ) 6 7 (f_w μ 6 7 - 1) = f_cmp1 μ := by rw [e7]; rfl
  have ec7 : f_cmp1 μ 6 7 = μ 6 7 - 1 := by unfold f_cmp1; exact rz_up_at
  have ec6 : f_cmp1 μ 6 6 = μ 6 6 := by unfold f_cmp1; rw [rz_up_j (by decide), e6]
  refine hY 0 _ _ _ (And.intro rfl (And.intro (fun h => ?_) (fun h => ?_)))
  · have hC := rzT (PQ P) (b2_ne h) hC
    refine hY 1 _ _ _ ?_
    show (x = rz_up (f_w μ) 6 7 (f_w μ 6 7 - 1) 6 6 → Y 2 [some (.ref 5), some (.int x)] [] (rz_up (f_w μ) 6 7 (f_w μ 6 7 - 1))) ∧ (¬ x = rz_up (f_w μ) 6 7 (f_w μ 6 7 - 1) 6 6 → ((0 : Int32) = 0 ∨ (0 : Int32) = 1) ∧ P (some (.int (25536 + rz_up (rz_up (f_w μ) 6 7 (f_w μ 6 7 - 1)) 5 3 0 6 7))) (rz_up (rz_up (f_w μ) 6 7 (f_w μ 6 7 - 1)) 5 3 0))
    rw [ec, ec6, rz_up_k (k' := 6) (by decide), ec7]
    refine And.intro (fun h2 => ?_) (fun h2 => And.intro (Or.inl rfl) (rzF (PQ P) h2 hC))
    have hC := rzT (PQ P) h2 hC
    refine hY 2 _ _ _ (And.intro rfl (And.intro (fun h3 => ?_) (fun h3 => ?_)))
    · exact hY 3 _ _ _ (And.intro (Or.inr rfl) (rzT (PQ P) (b2_ne h3) hC))
    · exact rzF (PQ P) (b2_eq h3) hC
  · exact rzF (PQ P) (b2_eq h) hC
theorem m_Wo_compareSecret (E : rz_E) : rz_MI SH CL E y_Wo_compareSecret 2 (Cond.code y_Wo_compareSecret c_Wo_compareSecret 2 (some .int) :: rz_tbl) ({ frames := 1, cells := 0, slots := 0, locals := 20 }) C_Wo_compareSecret := rz_metI (by decide) rfl (fun X _ G => sd_Wo_compareSecret X G) bd_Wo_compareSecret
theorem cd_Wo_compareSecret : rz_Cd rz_tbl y_Wo_compareSecret c_Wo_compareSecret 2 (some .int) (Cond.code y_Wo_compareSecret c_Wo_compareSecret 2 (some .int) :: rz_tbl) 1 ({ frames := 1, cells := 0, slots := 0, locals := 20 }) := ⟨rz_good wd_528, ⟨_, rfl⟩, wd_42, by decide +kernel, rfl, rfl⟩
def v_sec (μ : rz_M) : Int32 := (((μ 16 5 <<< ((24 : Int32) &&& 31)) ||| (μ 16 6 <<< ((16 : Int32) &&& 31))) ||| (μ 16 7 <<< ((8 : Int32) &&& 31))) ||| μ 16 8
def f_tell (μ : rz_M) : Int32 × rz_M :=
  if ¬ μ 16 2 = 0 then (27270, μ) else if μ 16 3 = 1 then
    (if ¬ μ 15 3 = 0 ∧ ¬ μ 15 3 = 4 then (26368, μ) else if μ 15 4 = -1 then
      (if μ 15 3 = 0 ∧ ¬ μ 5 3 = 0 then (36864, μ) else if ¬ μ 6 7 = 0 then (if μ 15 3 = 0 then (25536 + μ 6 7, μ) else f_cmp (v_sec μ) μ) else (27011, μ)) else (26368, μ)) else (27270, μ)
def C_Wo_tell : rz_C := fun As μ P => As = [.ref 5] ∧ PQ P (f_tell μ)
def bk_Wo_tell : Nat → List rz_T := fun b => match b with
  | 0 => [tz_aload 0, tz_get SH 5 1, tz_cv SH 0 1 1 C_Co_a, tz_if_ne 1, tz_aload 0, tz_get SH 5 1, tz_cv SH 0 1 1 C_Co_b, tz_iconst 1, tz_icmp_eq 2, tz_fall 1]
  | 1 => [tz_sipush 27270, tz_iret]
  | 2 => [tz_aload 0, tz_get SH 5 1, tz_get SH 1 3, tz_if_ne 3, tz_iconst 1, tz_goto 4]
  | 3 => [tz_iconst 0, tz_fall 4]
  | 4 => [tz_istore 1, tz_iload 1, tz_if_ne 5, tz_aload 0, tz_get SH 5 1, tz_get SH 1 3, tz_iconst 4, tz_icmp_ne 6, tz_fall 5]
  | 5 => [tz_aload 0, tz_get SH 5 1, tz_get SH 1 4, tz_iconst (-1), tz_icmp_eq 7, tz_fall 6]
  | 6 => [tz_sipush 26368, tz_iret]
  | 7 => [tz_iload 1, tz_if_eq 8, tz_aload 0, tz_get SH 5 3, tz_if_eq 8, tz_ldc 36864, tz_iret]
  | 8 => [tz_aload 0, tz_get SH 5 0, tz_get SH 4 7, tz_if_ne 9, tz_sipush 27011, tz_iret]
  | 9 => [tz_iload 1, tz_if_eq 10, tz_sipush 25536, tz_aload 0, tz_get SH 5 0, tz_get SH 4 7, tz_iadd, tz_goto 11]
  | 10 => [tz_aload 0, tz_aload 0, tz_get SH 5 1, tz_cv SH 0 1 1 C_Co_dataAsSecret, tz_cv SH 1 5 2 C_Wo_compareSecret, tz_fall 11]
  | 11 => [tz_iret]
  | _ => []
def bp_Wo_tell : Nat → Nat := fun b => match b with
  | 0 => 0
  | 1 => 21
  | 2 => 25
  | 3 => 39
  | 4 => 40
  | 5 => 56
  | 6 => 67
  | 7 => 71
  | 8 => 85
  | 9 => 99
  | 10 => 117
  | 11 => 128
  | _ => 0
set_option maxRecDepth 100000 in
set_option maxHeartbeats 4000000 in
theorem sd_Wo_tell (X : rz_X) (G : rz_Cx CL X c_Wo_tell 2 rz_tbl R_Wo ({ frames := 2, cells := 0, slots := 0, locals := 41 })) : ∀ b, rz_SB SH CL X bp_Wo_tell (rz_RI SH CL X c_Wo_tell (fun v => narrow .int (.int v) = .int v)) (bk_Wo_tell b) (bp_Wo_tell b) := fun b => match b with
  | 0 => (rz_cons (rz_aload_n G d_Wo_tell_0 rfl) (rz_cons (rz_get G rfl in_Wo (by decide) wd_235 d_Wo_tell_1) (rz_cons (rz_cvi G (m_Co_a X.1) cd_Co_a wd_438 wd_439 wd_440 rfl rfl (by decide) d_Wo_tell_4) (rz_cons (rz_if_ne G d_Wo_tell_7 (by decide)) (rz_cons (rz_aload_n G d_Wo_tell_10 rfl) (rz_cons (rz_get G rfl in_Wo (by decide) wd_235 d_Wo_tell_11) (rz_cons (rz_cvi G (m_Co_b X.1) cd_Co_b wd_442 wd_443 wd_444 rfl rfl (by decide) d_Wo_tell_14) (rz_cons (rz_iconst G d_Wo_tell_17 (by decide)) (rz_cons (rz_icmp_eq G d_Wo_tell_18 (by decide)) (rz_fall rfl))))))))))
  | 1 => (rz_cons (rz_sipush G d_Wo_tell_21 (by decide)) (rz_cons (rz_iret (npc := 0) (fun _ => rfl) d_Wo_tell_24) rz_nil))
  | 2 => (rz_cons (rz_aload_n G d_Wo_tell_25 rfl) (rz_cons (rz_get G rfl in_Wo (by decide) wd_235 d_Wo_tell_26) (rz_cons (rz_getN G rfl in_Co (by decide) wn_27 d_Wo_tell_29) (rz_cons (rz_if_ne G d_Wo_tell_32 (by decide)) (rz_cons (rz_iconst G d_Wo_tell_35 (by decide)) (rz_cons (rz_goto (npc := 0) G d_Wo_tell_36 (by decide)) rz_nil))))))
  | 3 => (rz_cons (rz_iconst G d_Wo_tell_39 (by decide)) (rz_fall rfl))
  | 4 => (rz_cons (rz_istore_n G d_Wo_tell_40 rfl (by decide)) (rz_cons (rz_iload_n G d_Wo_tell_41 rfl) (rz_cons (rz_if_ne G d_Wo_tell_42 (by decide)) (rz_cons (rz_aload_n G d_Wo_tell_45 rfl) (rz_cons (rz_get G rfl in_Wo (by decide) wd_235 d_Wo_tell_46) (rz_cons (rz_getN G rfl in_Co (by decide) wn_27 d_Wo_tell_49) (rz_cons (rz_iconst G d_Wo_tell_52 (by decide)) (rz_cons (rz_icmp_ne G d_Wo_tell_53 (by decide)) (rz_fall rfl)))))))))
  | 5 => (rz_cons (rz_aload_n G d_Wo_tell_56 rfl) (rz_cons (rz_get G rfl in_Wo (by decide) wd_235 d_Wo_tell_57) (rz_cons (rz_getN G rfl in_Co (by decide) wn_28 d_Wo_tell_60) (rz_cons (rz_iconst G d_Wo_tell_63 (by decide)) (rz_cons (rz_icmp_eq G d_Wo_tell_64 (by decide)) (rz_fall rfl))))))
  | 6 => (rz_cons (rz_sipush G d_Wo_tell_67 (by decide)) (rz_cons (rz_iret (npc := 0) (fun _ => rfl) d_Wo_tell_70) rz_nil))
  | 7 => (rz_cons (rz_iload_n G d_Wo_tell_71 rfl) (rz_cons (rz_if_eq G d_Wo_tell_72 (by decide)) (rz_cons (rz_aload_n G d_Wo_tell_75 rfl) (rz_cons (rz_get G rfl in_Wo (by decide) wd_239 d_Wo_tell_76) (rz_cons (rz_if_eq G d_Wo_tell_79 (by decide)) (rz_cons (rz_ldc G wd_464 d_Wo_tell_82) (rz_cons (rz_iret (npc := 0) (fun _ => rfl) d_Wo_tell_84) rz_nil)))))))
  | 8 => (rz_cons (rz_aload_n G d_Wo_tell_85 rfl) (rz_cons (rz_get G rfl in_Wo (by decide) wd_233 d_Wo_tell_86) (rz_cons (rz_getN G rfl in_Me (by decide) wn_21 d_Wo_tell_89) (rz_cons (rz_if_ne G d_Wo_tell_92 (by decide)) (rz_cons (rz_sipush G d_Wo_tell_95 (by decide)) (rz_cons (rz_iret (npc := 0) (fun _ => rfl) d_Wo_tell_98) rz_nil))))))
  | 9 => (rz_cons (rz_iload_n G d_Wo_tell_99 rfl) (rz_cons (rz_if_eq G d_Wo_tell_100 (by decide)) (rz_cons (rz_sipush G d_Wo_tell_103 (by decide)) (rz_cons (rz_aload_n G d_Wo_tell_106 rfl) (rz_cons (rz_get G rfl in_Wo (by decide) wd_233 d_Wo_tell_107) (rz_cons (rz_getN G rfl in_Me (by decide) wn_21 d_Wo_tell_110) (rz_cons (rz_iadd G d_Wo_tell_113) (rz_cons (rz_goto (npc := 0) G d_Wo_tell_114 (by decide)) rz_nil))))))))
  | 10 => (rz_cons (rz_aload_n G d_Wo_tell_117 rfl) (rz_cons (rz_aload_n G d_Wo_tell_118 rfl) (rz_cons (rz_get G rfl in_Wo (by decide) wd_235 d_Wo_tell_119) (rz_cons (rz_cvi G (m_Co_dataAsSecret X.1) cd_Co_dataAsSecret wd_521 wd_522 wd_523 rfl rfl (by decide) d_Wo_tell_122) (rz_cons (rz_cvi G (m_Wo_compareSecret X.1) cd_Wo_compareSecret wd_525 wd_527 wd_12 rfl rfl (by decide) d_Wo_tell_125) (rz_fall rfl))))))
  | 11 => (rz_cons (rz_iret (npc := 0) (fun _ => rfl) d_Wo_tell_128) rz_nil)
  | _ + 12 => rz_nil
set_option maxRecDepth 100000 in
set_option maxHeartbeats 4000000 in
theorem bd_Wo_tell : ∀ (Y : Nat → rz_K) (P : rz_P), (∀ b ls st μ, rz_ex P Y (bk_Wo_tell b) ls st μ → Y b ls st μ) → ∀ As μ, C_Wo_tell As μ P → Y 0 (rz_pad 2 (rz_ent As)) [] μ := by
  intro Y P hY As μ hC
  obtain ⟨rfl, hC⟩ := hC
  refine hY 0 _ _ _ (And.intro rfl (And.intro (fun h => hY 1 _ _ _ (rzT (PQ P) h hC)) (fun h => ?_)))
  have hC := rzN (PQ P) h hC
  refine And.intro rfl (And.intro (fun h => ?_) (fun h => hY 1 _ _ _ (rzF (PQ P) h hC)))
  have hC := rzT (PQ P) h hC
  by_cases hd : μ 15 3 = 0
  · have hC := rzF (PQ P) (fun q => q.1 hd) hC
    refine hY 2 _ _ _ (And.intro (fun h => absurd hd h) (fun _ => ?_))
    refine hY 4 _ _ _ (And.intro (fun _ => ?_) (fun h => absurd h (by decide)))
    refine hY 5 _ _ _ (And.intro (fun h => ?_) (fun h => hY 6 _ _ _ (rzF (PQ P) h hC)))
    have hC := rzT (PQ P) h hC
    refine hY 7 _ _ _ (And.intro (fun h => absurd h (by decide)) (fun _ => And.intro (fun h => ?_) (fun h => rzT (PQ P) ⟨hd, h⟩ hC)))
    have hC := rzF (PQ P) (fun q => q.2 h) hC
    refine hY 8 _ _ _ (And.intro (fun h => ?_) (fun h => rzN (PQ P) h hC))
    have hC := rzT (PQ P) h hC
    refine hY 9 _ _ _ (And.intro (fun h => absurd h (by decide)) (fun _ => hY 11 _ _ _ (rzT (PQ P) hd hC)))
  · refine hY 2 _ _ _ (And.intro (fun _ => hY 3 _ _ _ ?_) (fun h => absurd h hd))
    refine hY 4 _ _ _ (And.intro (fun h => absurd rfl h) (fun _ => And.intro (fun h => hY 6 _ _ _ (rzT (PQ P) ⟨hd, h⟩ hC)) (fun h => ?_)))
    have hC := rzF (PQ P) (fun q => q.2 h) hC
    refine hY 5 _ _ _ (And.intro (fun h => ?_) (fun h => hY 6 _ _ _ (rzF (PQ P) h hC)))
    have hC := rzT (PQ P) h hC
    have hC := rzF (PQ P) (fun q => hd q.1) hC
    refine hY 7 _ _ _ (And.intro (fun _ => ?_) (fun h => absurd rfl h))
    refine hY 8 _ _ _ (And.intro (fun h => ?_) (fun h => rzN (PQ P) h hC))
    have hC := rzT (PQ P) h hC
    refine hY 9 _ _ _ (And.intro (fun _ => ?_) (fun h => absurd rfl h))
    exact hY 10 _ _ _ (And.intro rfl ⟨_, rfl, hY 11 _ _ _ (rzF (PQ P) hd hC)⟩)
theorem m_Wo_tell (E : rz_E) : rz_MI SH CL E y_Wo_tell 2 (Cond.code y_Wo_tell c_Wo_tell 2 (some .int) :: rz_tbl) ({ frames := 2, cells := 0, slots := 0, locals := 41 }) C_Wo_tell := rz_metI (by decide) rfl (fun X _ G => sd_Wo_tell X G) bd_Wo_tell
theorem cd_Wo_tell : rz_Cd rz_tbl y_Wo_tell c_Wo_tell 2 (some .int) (Cond.code y_Wo_tell c_Wo_tell 2 (some .int) :: rz_tbl) 0 ({ frames := 2, cells := 0, slots := 0, locals := 41 }) := ⟨rz_good wd_520, ⟨_, rfl⟩, wd_42, by decide +kernel, rfl, rfl⟩
def f_renew (μ : rz_M) : Int32 × rz_M :=
  if ¬ μ 16 2 = 0 then (27270, μ) else if μ 16 3 = 0 then
    (if ¬ μ 15 3 = 4 then (26368, μ) else if μ 15 4 = -1 then
      (if ¬ μ 5 3 = 0 then (if ¬ μ 6 10 = 0 then (36864, rz_up (f_w μ) 6 6 (v_sec μ)) else (-1, f_w μ)) else (27010, μ)) else (26368, μ)) else (27270, μ)
def C_Wo_renew : rz_C := fun As μ P => As = [.ref 5] ∧ PQ P (f_renew μ)
def bk_Wo_renew : Nat → List rz_T := fun b => match b with
  | 0 => [tz_aload 0, tz_get SH 5 1, tz_cv SH 0 1 1 C_Co_a, tz_if_ne 1, tz_aload 0, tz_get SH 5 1, tz_cv SH 0 1 1 C_Co_b, tz_if_eq 2, tz_fall 1]
  | 1 => [tz_sipush 27270, tz_iret]
  | 2 => [tz_aload 0, tz_get SH 5 1, tz_get SH 1 3, tz_iconst 4, tz_icmp_ne 3, tz_aload 0, tz_get SH 5 1, tz_get SH 1 4, tz_iconst (-1), tz_icmp_eq 4, tz_fall 3]
  | 3 => [tz_sipush 26368, tz_iret]
  | 4 => [tz_aload 0, tz_get SH 5 3, tz_if_ne 5, tz_sipush 27010, tz_iret]
  | 5 => [tz_aload 0, tz_get SH 5 0, tz_cv SH 0 4 1 C_Me_mayWrite, tz_if_ne 6, tz_iconst (-1), tz_iret]
  | 6 => [tz_aload 0, tz_get SH 5 0, tz_aload 0, tz_get SH 5 1, tz_cv SH 0 1 1 C_Co_dataAsSecret, tz_put SH 4 6, tz_ldc 36864, tz_iret]
  | _ => []
def bp_Wo_renew : Nat → Nat := fun b => match b with
  | 0 => 0
  | 1 => 20
  | 2 => 24
  | 3 => 46
  | 4 => 50
  | 5 => 61
  | 6 => 73
  | _ => 0
set_option maxRecDepth 100000 in
set_option maxHeartbeats 4000000 in
theorem sd_Wo_renew (X : rz_X) (G : rz_Cx CL X c_Wo_renew 1 rz_tbl R_Wo ({ frames := 2, cells := 0, slots := 0, locals := 41 })) : ∀ b, rz_SB SH CL X bp_Wo_renew (rz_RI SH CL X c_Wo_renew (fun v => narrow .int (.int v) = .int v)) (bk_Wo_renew b) (bp_Wo_renew b) := fun b => match b with
  | 0 => (rz_cons (rz_aload_n G d_Wo_renew_0 rfl) (rz_cons (rz_get G rfl in_Wo (by decide) wd_235 d_Wo_renew_1) (rz_cons (rz_cvi G (m_Co_a X.1) cd_Co_a wd_438 wd_439 wd_440 rfl rfl (by decide) d_Wo_renew_4) (rz_cons (rz_if_ne G d_Wo_renew_7 (by decide)) (rz_cons (rz_aload_n G d_Wo_renew_10 rfl) (rz_cons (rz_get G rfl in_Wo (by decide) wd_235 d_Wo_renew_11) (rz_cons (rz_cvi G (m_Co_b X.1) cd_Co_b wd_442 wd_443 wd_444 rfl rfl (by decide) d_Wo_renew_14) (rz_cons (rz_if_eq G d_Wo_renew_17 (by decide)) (rz_fall rfl)))))))))
  | 1 => (rz_cons (rz_sipush G d_Wo_renew_20 (by decide)) (rz_cons (rz_iret (npc := 0) (fun _ => rfl) d_Wo_renew_23) rz_nil))
  | 2 => (rz_cons (rz_aload_n G d_Wo_renew_24 rfl) (rz_cons (rz_get G rfl in_Wo (by decide) wd_235 d_Wo_renew_25) (rz_cons (rz_getN G rfl in_Co (by decide) wn_27 d_Wo_renew_28) (rz_cons (rz_iconst G d_Wo_renew_31 (by decide)) (rz_cons (rz_icmp_ne G d_Wo_renew_32 (by decide)) (rz_cons (rz_aload_n G d_Wo_renew_35 rfl) (rz_cons (rz_get G rfl in_Wo (by decide) wd_235 d_Wo_renew_36) (rz_cons (rz_getN G rfl in_Co (by decide) wn_28 d_Wo_renew_39) (rz_cons (rz_iconst G d_Wo_renew_42 (by decide)) (rz_cons (rz_icmp_eq G d_Wo_renew_43 (by decide)) (rz_fall rfl)))))))))))
  | 3 => (rz_cons (rz_sipush G d_Wo_renew_46 (by decide)) (rz_cons (rz_iret (npc := 0) (fun _ => rfl) d_Wo_renew_49) rz_nil))
  | 4 => (rz_cons (rz_aload_n G d_Wo_renew_50 rfl) (rz_cons (rz_get G rfl in_Wo (by decide) wd_239 d_Wo_renew_51) (rz_cons (rz_if_ne G d_Wo_renew_54 (by decide)) (rz_cons (rz_sipush G d_Wo_renew_57 (by decide)) (rz_cons (rz_iret (npc := 0) (fun _ => rfl) d_Wo_renew_60) rz_nil)))))
  | 5 => (rz_cons (rz_aload_n G d_Wo_renew_61 rfl) (rz_cons (rz_get G rfl in_Wo (by decide) wd_233 d_Wo_renew_62) (rz_cons (rz_cvi G (m_Me_mayWrite X.1) cd_Me_mayWrite wd_529 wd_335 wd_336 rfl rfl (by decide) d_Wo_renew_65) (rz_cons (rz_if_ne G d_Wo_renew_68 (by decide)) (rz_cons (rz_iconst G d_Wo_renew_71 (by decide)) (rz_cons (rz_iret (npc := 0) (fun _ => rfl) d_Wo_renew_72) rz_nil))))))
  | 6 => (rz_cons (rz_aload_n G d_Wo_renew_73 rfl) (rz_cons (rz_get G rfl in_Wo (by decide) wd_233 d_Wo_renew_74) (rz_cons (rz_aload_n G d_Wo_renew_77 rfl) (rz_cons (rz_get G rfl in_Wo (by decide) wd_235 d_Wo_renew_78) (rz_cons (rz_cvi G (m_Co_dataAsSecret X.1) cd_Co_dataAsSecret wd_521 wd_522 wd_523 rfl rfl (by decide) d_Wo_renew_81) (rz_cons (rz_putN G rfl in_Me ty_Me tyok_Me nm_Me (by decide) rfl (by decide +kernel) wn_19 d_Wo_renew_84) (rz_cons (rz_ldc G wd_464 d_Wo_renew_87) (rz_cons (rz_iret (npc := 0) (fun _ => rfl) d_Wo_renew_89) rz_nil))))))))
  | _ + 7 => rz_nil
set_option maxRecDepth 100000 in
set_option maxHeartbeats 4000000 in
theorem bd_Wo_renew : ∀ (Y : Nat → rz_K) (P : rz_P), (∀ b ls st μ, rz_ex P Y (bk_Wo_renew b) ls st μ → Y b ls st μ) → ∀ As μ, C_Wo_renew As μ P → Y 0 (rz_pad 1 (rz_ent As)) [] μ := by
  intro Y P hY As μ hC
  obtain ⟨rfl, hC⟩ := hC
  refine hY 0 _ _ _ (And.intro rfl (And.intro (fun h => hY 1 _ _ _ (rzT (PQ P) h hC)) (fun h => ?_)))
  have hC := rzN (PQ P) h hC
  refine And.intro rfl (And.intro (fun h => ?_) (fun h => hY 1 _ _ _ (rzF (PQ P) h hC)))
  have hC := rzT (PQ P) h hC
  refine hY 2 _ _ _ (And.intro (fun h => hY 3 _ _ _ (rzT (PQ P) h hC)) (fun h => ?_))
  have hC := rzN (PQ P) h hC
  refine And.intro (fun h => ?_) (fun h => hY 3 _ _ _ (rzF (PQ P) h hC))
  have hC := rzT (PQ P) h hC
  refine hY 4 _ _ _ (And.intro (fun h => ?_) (fun h => rzN (PQ P) h hC))
  have hC := rzT (PQ P) h hC
  refine hY 5 _ _ _ (And.intro rfl (And.intro (fun h => ?_) (fun h => rzF (PQ P) (b2_eq h) hC)))
  have hC := rzT (PQ P) (b2_ne h) hC
  have e16 : f_w μ 16 = μ 16 := f_w_ne (by decide)
  refine hY 6 _ _ _ (And.intro rfl ?_)
  rw [e16]
  exact hC
theorem m_Wo_renew (E : rz_E) : rz_MI SH CL E y_Wo_renew 1 (Cond.code y_Wo_renew c_Wo_renew 1 (some .int) :: rz_tbl) ({ frames := 2, cells := 0, slots := 0, locals := 41 }) C_Wo_renew := rz_metI (by decide) rfl (fun X _ G => sd_Wo_renew X G) bd_Wo_renew
theorem cd_Wo_renew : rz_Cd rz_tbl y_Wo_renew c_Wo_renew 1 (some .int) (Cond.code y_Wo_renew c_Wo_renew 1 (some .int) :: rz_tbl) 0 ({ frames := 2, cells := 0, slots := 0, locals := 41 }) := ⟨rz_good wd_533, ⟨_, rfl⟩, wd_42, by decide +kernel, rfl, rfl⟩
def f_ins (μ : rz_M) : Int32 × rz_M := if μ 16 1 = 32 then f_tell μ else if μ 16 1 = 36 then f_renew μ else if μ 16 1 = 164 then f_fi μ else if μ 16 1 = 176 then f_read μ else if μ 16 1 = 214 then f_chg (μ 15 3).toNatClampNeg μ else (27904, μ)
def f_perf (μ : rz_M) : Int32 × rz_M := if p_ok μ then (if μ 16 0 = 0 then f_ins (f_parse μ) else (28160, f_parse μ)) else (26368, f_parse μ)
def IW (μ : rz_M) : Prop := (∃ c : Nat, μ 7 6 = nI c ∧ 1 ≤ c ∧ c ≤ 8) ∧ (∀ i, i < 8 → ∃ z : Nat, z ≤ 24 ∧ μ 10 i = nI z) ∧ μ 15 1 ≤ 40 ∧ μ 17 1 = 0 ∧ OCT (μ 16)
theorem q_dl_nI {μ : rz_M} (ho : OCT (μ 16)) (h : p_ok μ) : ∃ n : Nat, n ≤ 32 ∧ q_dl μ = nI n := by
  obtain ⟨h1, h2, h3, -⟩ := h
  have : ∃ n : Nat, n ≤ 255 ∧ q_dl μ = nI n := by
    unfold q_dl
    rw [if_neg (fun q => q h1), if_pos h2]
    split
    · exact ⟨0, by omega, rfl⟩
    · exact ho 4
  obtain ⟨n, hn, e⟩ := this
  refine ⟨n, ?_, e⟩
  rw [e] at h3
  rcases Nat.lt_or_ge 32 n with q | q
  · exact absurd (nI_lt (a := 32) q (by omega)) h3
  · exact q
theorem q_ex_nI {μ : rz_M} (ho : OCT (μ 16)) : q_ex μ = -1 ∨ ∃ e : Nat, e ≤ 255 ∧ q_ex μ = nI e := by
  unfold q_ex
  split
  · split
    · exact Or.inr (ho _)
    · exact Or.inr ⟨32, by omega, rfl⟩
  · exact Or.inl rfl
def C_Wo_perform : rz_C := fun As μ P => As = [.ref 5] ∧ IW μ ∧ PQ P (f_perf μ)
def bk_Wo_perform : Nat → List rz_T := fun b => match b with
  | 0 => [tz_aload 0, tz_get SH 5 1, tz_cv SH 0 1 2 C_Co_parse, tz_if_ne 1, tz_sipush 26368, tz_iret]
  | 1 => [tz_aload 0, tz_get SH 5 1, tz_cv SH 0 1 1 C_Co_octetClass, tz_if_eq 2, tz_sipush 28160, tz_iret]
  | 2 => [tz_aload 0, tz_get SH 5 1, tz_cv SH 0 1 1 C_Co_instruction, tz_sw [(32, 6), (36, 7), (164, 3), (176, 4), (214, 5)] 8]
  | 3 => [tz_aload 0, tz_cv SH 0 5 4 C_Wo_find, tz_iret]
  | 4 => [tz_aload 0, tz_cv SH 0 5 6 C_Wo_read, tz_iret]
  | 5 => [tz_aload 0, tz_cv SH 0 5 3 C_Wo_change, tz_iret]
  | 6 => [tz_aload 0, tz_cv SH 0 5 2 C_Wo_tell, tz_iret]
  | 7 => [tz_aload 0, tz_cv SH 0 5 1 C_Wo_renew, tz_iret]
  | 8 => [tz_sipush 27904, tz_iret]
  | _ => []
def bp_Wo_perform : Nat → Nat := fun b => match b with
  | 0 => 0
  | 1 => 14
  | 2 => 28
  | 3 => 84
  | 4 => 89
  | 5 => 94
  | 6 => 99
  | 7 => 104
  | 8 => 109
  | _ => 0
set_option maxRecDepth 100000 in
set_option maxHeartbeats 4000000 in
theorem sd_Wo_perform (X : rz_X) (G : rz_Cx CL X c_Wo_perform 1 rz_tbl R_Wo ({ frames := 3, cells := 0, slots := 0, locals := 69 })) : ∀ b, rz_SB SH CL X bp_Wo_perform (rz_RI SH CL X c_Wo_perform (fun v => narrow .int (.int v) = .int v)) (bk_Wo_perform b) (bp_Wo_perform b) := fun b => match b with
  | 0 => (rz_cons (rz_aload_n G d_Wo_perform_0 rfl) (rz_cons (rz_get G rfl in_Wo (by decide) wd_235 d_Wo_perform_1) (rz_cons (rz_cvi G (m_Co_parse X.1) cd_Co_parse wd_422 wd_423 wd_424 rfl rfl (by decide) d_Wo_perform_4) (rz_cons (rz_if_ne G d_Wo_perform_7 (by decide)) (rz_cons (rz_sipush G d_Wo_perform_10 (by decide)) (rz_cons (rz_iret (npc := 0) (fun _ => rfl) d_Wo_perform_13) rz_nil))))))
  | 1 => (rz_cons (rz_aload_n G d_Wo_perform_14 rfl) (rz_cons (rz_get G rfl in_Wo (by decide) wd_235 d_Wo_perform_15) (rz_cons (rz_cvi G (m_Co_octetClass X.1) cd_Co_octetClass wd_426 wd_427 wd_428 rfl rfl (by decide) d_Wo_perform_18) (rz_cons (rz_if_eq G d_Wo_perform_21 (by decide)) (rz_cons (rz_sipush G d_Wo_perform_24 (by decide)) (rz_cons (rz_iret (npc := 0) (fun _ => rfl) d_Wo_perform_27) rz_nil))))))
  | 2 => (rz_cons (rz_aload_n G d_Wo_perform_28 rfl) (rz_cons (rz_get G rfl in_Wo (by decide) wd_235 d_Wo_perform_29) (rz_cons (rz_cvi G (m_Co_instruction X.1) cd_Co_instruction wd_430 wd_431 wd_432 rfl rfl (by decide) d_Wo_perform_32) (rz_cons (rz_lookup (npc := 0) G d_Wo_perform_35 (by decide) (by decide +kernel) (by decide)) rz_nil))))
  | 3 => (rz_cons (rz_aload_n G d_Wo_perform_84 rfl) (rz_cons (rz_cvi G (m_Wo_find X.1) cd_Wo_find wd_434 wd_436 wd_6 rfl rfl (by decide) d_Wo_perform_85) (rz_cons (rz_iret (npc := 0) (fun _ => rfl) d_Wo_perform_88) rz_nil)))
  | 4 => (rz_cons (rz_aload_n G d_Wo_perform_89 rfl) (rz_cons (rz_cvi G (m_Wo_read X.1) cd_Wo_read wd_465 wd_467 wd_8 rfl rfl (by decide) d_Wo_perform_90) (rz_cons (rz_iret (npc := 0) (fun _ => rfl) d_Wo_perform_93) rz_nil)))
  | 5 => (rz_cons (rz_aload_n G d_Wo_perform_94 rfl) (rz_cons (rz_cvi G (m_Wo_change X.1) cd_Wo_change wd_502 wd_504 wd_10 rfl rfl (by decide) d_Wo_perform_95) (rz_cons (rz_iret (npc := 0) (fun _ => rfl) d_Wo_perform_98) rz_nil)))
  | 6 => (rz_cons (rz_aload_n G d_Wo_perform_99 rfl) (rz_cons (rz_cvi G (m_Wo_tell X.1) cd_Wo_tell wd_517 wd_519 wd_11 rfl rfl (by decide) d_Wo_perform_100) (rz_cons (rz_iret (npc := 0) (fun _ => rfl) d_Wo_perform_103) rz_nil)))
  | 7 => (rz_cons (rz_aload_n G d_Wo_perform_104 rfl) (rz_cons (rz_cvi G (m_Wo_renew X.1) cd_Wo_renew wd_530 wd_532 wd_13 rfl rfl (by decide) d_Wo_perform_105) (rz_cons (rz_iret (npc := 0) (fun _ => rfl) d_Wo_perform_108) rz_nil)))
  | 8 => (rz_cons (rz_sipush G d_Wo_perform_109 (by decide)) (rz_cons (rz_iret (npc := 0) (fun _ => rfl) d_Wo_perform_112) rz_nil))
  | _ + 9 => rz_nil
set_option maxRecDepth 100000 in
set_option maxHeartbeats 4000000 in
theorem bd_Wo_perform : ∀ (Y : Nat → rz_K) (P : rz_P), (∀ b ls st μ, rz_ex P Y (bk_Wo_perform b) ls st μ → Y b ls st μ) → ∀ As μ, C_Wo_perform As μ P → Y 0 (rz_pad 1 (rz_ent As)) [] μ := by
  intro Y P hY As μ hC
  obtain ⟨rfl, ⟨⟨c, hc, c1, c8⟩, hz, h40, h17, ho⟩, hC⟩ := hC
  have h8 : μ 7 6 ≤ 8 := by rw [hc]; exact nI_le (b := 8) c8 (by omega)
  refine hY 0 _ _ _ ⟨rfl, h40, And.intro (fun h => ?_) (fun h => rzF (PQ P) (b2_eq h) hC)⟩
  have hok := b2_ne h
  have hC := rzT (PQ P) hok hC
  refine hY 1 _ _ _ (And.intro rfl (And.intro (fun h => ?_) (fun h => rzF (PQ P) h hC)))
  have hC := rzT (PQ P) h hC
  obtain ⟨n, hn32, hn⟩ := q_dl_nI ho hok
  have hex := q_ex_nI ho
  have n15 : f_parse μ 15 3 = nI n := hn
  have cn : (f_parse μ 15 3).toNatClampNeg = n := nc n15 (by omega)
  refine hY 2 _ _ _ (And.intro rfl ?_)
  refine And.intro (fun h => ?_) (fun h => ?_)
  · exact hY 6 _ _ _ (And.intro rfl (rzT (PQ P) h hC))
  have hC := rzF (PQ P) h hC
  refine And.intro (fun h => ?_) (fun h => ?_)
  · exact hY 7 _ _ _ (And.intro rfl (rzT (PQ P) h hC))
  have hC := rzF (PQ P) h hC
  refine And.intro (fun h => ?_) (fun h => ?_)
  · exact hY 3 _ _ _ ⟨c, rfl, hc, c1, c8, rzT (PQ P) h hC⟩
  have hC := rzF (PQ P) h hC
  refine And.intro (fun h => ?_) (fun h => ?_)
  · exact hY 4 _ _ _ ⟨rfl, h8, hz, h17, hex, rzT (PQ P) h hC⟩
  have hC := rzF (PQ P) h hC
  refine And.intro (fun h => ?_) (fun h => ?_)
  · have hC := rzT (PQ P) h hC
    rw [cn] at hC
    exact hY 5 _ _ _ ⟨n, rfl, n15, hn32, h8, hz, hC⟩
  · exact hY 8 _ _ _ (rzF (PQ P) h hC)
theorem m_Wo_perform (E : rz_E) : rz_MI SH CL E y_Wo_perform 1 (Cond.code y_Wo_perform c_Wo_perform 1 (some .int) :: rz_tbl) ({ frames := 3, cells := 0, slots := 0, locals := 69 }) C_Wo_perform := rz_metI (by decide) rfl (fun X _ G => sd_Wo_perform X G) bd_Wo_perform
theorem cd_Wo_perform : rz_Cd rz_tbl y_Wo_perform c_Wo_perform 1 (some .int) (Cond.code y_Wo_perform c_Wo_perform 1 (some .int) :: rz_tbl) 0 ({ frames := 3, cells := 0, slots := 0, locals := 69 }) := ⟨rz_good wd_421, ⟨_, rfl⟩, wd_42, by decide +kernel, rfl, rfl⟩
