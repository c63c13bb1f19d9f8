def C_Co_clear : rz_C := fun As μ P => As = [.ref 15] ∧ P none (rz_up (rz_up μ 15 1 0) 15 2 0)
def bk_Co_clear : Nat → List rz_T := fun b => match b with
  | 0 => [tz_aload 0, tz_iconst 0, tz_put SH 1 1, tz_aload 0, tz_iconst 0, tz_putz SH 1 2, tz_vret]
  | _ => []
def bp_Co_clear : Nat → Nat := fun b => match b with
  | 0 => 0
  | _ => 0
set_option maxRecDepth 100000 in
set_option maxHeartbeats 4000000 in
theorem sd_Co_clear (X : rz_X) (G : rz_Cx CL X c_Co_clear 1 rz_tbl R_Co ({ frames := 0, cells := 0, slots := 0, locals := 0 })) : ∀ b, rz_SB SH CL X bp_Co_clear (rz_RV SH CL X c_Co_clear) (bk_Co_clear b) (bp_Co_clear b) := fun b => match b with
  | 0 => (rz_cons (rz_aload_n G d_Co_clear_0 rfl) (rz_cons (rz_iconst G d_Co_clear_1 (by decide)) (rz_cons (rz_put G rfl in_Co ty_Co tyok_Co nm_Co (by decide) rfl (by decide +kernel) wd_198 d_Co_clear_2) (rz_cons (rz_aload_n G d_Co_clear_5 rfl) (rz_cons (rz_iconst G d_Co_clear_6 (by decide)) (rz_cons (rz_putz G rfl in_Co ty_Co tyok_Co nm_Co (by decide) rfl (by decide +kernel) wd_200 d_Co_clear_7) (rz_cons (rz_vret (npc := 0) d_Co_clear_10) rz_nil)))))))
  | _ + 1 => rz_nil
set_option maxRecDepth 100000 in
set_option maxHeartbeats 4000000 in
theorem bd_Co_clear : ∀ (Y : Nat → rz_K) (P : rz_P), (∀ b ls st μ, rz_ex P Y (bk_Co_clear b) ls st μ → Y b ls st μ) → ∀ As μ, C_Co_clear As μ P → Y 0 (rz_pad 1 (rz_ent As)) [] μ := by
  intro Y P hY As μ hC
  obtain ⟨rfl, hC⟩ := hC
  exact hY 0 _ _ _ (And.intro (Or.inl rfl) hC)
theorem m_Co_clear (E : rz_E) : rz_MV SH CL E y_Co_clear 1 (Cond.code y_Co_clear c_Co_clear 1 none :: rz_tbl) ({ frames := 0, cells := 0, slots := 0, locals := 0 }) C_Co_clear := rz_metV (by decide) rfl (fun X _ G => sd_Co_clear X G) bd_Co_clear
theorem cd_Co_clear : rz_Cd rz_tbl y_Co_clear c_Co_clear 1 none (Cond.code y_Co_clear c_Co_clear 1 none :: rz_tbl) 0 ({ frames := 0, cells := 0, slots := 0, locals := 0 }) := ⟨rz_good wd_325, ⟨_, rfl⟩, wd_45, by decide +kernel, rfl, rfl⟩
def f_Co_add (x : Int32) (μ : rz_M) : rz_M := if 40 ≤ μ 15 1 then rz_up μ 15 2 1 else rz_up (rz_up μ 15 1 (μ 15 1 + 1)) 16 (μ 15 1).toNatClampNeg x
def C_Co_add : rz_C := fun As μ P => ∃ x, As = [.ref 15, .int x] ∧ 0 ≤ μ 15 1 ∧ P none (f_Co_add x μ)
def bk_Co_add : Nat → List rz_T := fun b => match b with
  | 0 => [tz_aload 0, tz_get SH 1 1, tz_bipush 40, tz_icmp_ge 1, tz_aload 0, tz_get SH 1 0, tz_aload 0, tz_dup, tz_get SH 1 1, tz_dup_x1, tz_iconst 1, tz_iadd, tz_put SH 1 1, tz_iload 1, tz_iast SH, tz_goto 2]
  | 1 => [tz_aload 0, tz_iconst 1, tz_putz SH 1 2, tz_fall 2]
  | 2 => [tz_vret]
  | _ => []
def bp_Co_add : Nat → Nat := fun b => match b with
  | 0 => 0
  | 1 => 29
  | 2 => 34
  | _ => 0
set_option maxRecDepth 100000 in
set_option maxHeartbeats 4000000 in
theorem sd_Co_add (X : rz_X) (G : rz_Cx CL X c_Co_add 2 rz_tbl R_Co ({ frames := 0, cells := 0, slots := 0, locals := 0 })) : ∀ b, rz_SB SH CL X bp_Co_add (rz_RV SH CL X c_Co_add) (bk_Co_add b) (bp_Co_add b) := fun b => match b with
  | 0 => (rz_cons (rz_aload_n G d_Co_add_0 rfl) (rz_cons (rz_get G rfl in_Co (by decide) wd_198 d_Co_add_1) (rz_cons (rz_bipush G d_Co_add_4 (by decide)) (rz_cons (rz_icmp_ge G d_Co_add_6 (by decide)) (rz_cons (rz_aload_n G d_Co_add_9 rfl) (rz_cons (rz_get G rfl in_Co (by decide) wd_197 d_Co_add_10) (rz_cons (rz_aload_n G d_Co_add_13 rfl) (rz_cons (rz_dup G d_Co_add_14) (rz_cons (rz_get G rfl in_Co (by decide) wd_198 d_Co_add_15) (rz_cons (rz_dup_x1 G d_Co_add_18) (rz_cons (rz_iconst G d_Co_add_19 (by decide)) (rz_cons (rz_iadd G d_Co_add_20) (rz_cons (rz_put G rfl in_Co ty_Co tyok_Co nm_Co (by decide) rfl (by decide +kernel) wd_198 d_Co_add_21) (rz_cons (rz_iload_n G d_Co_add_24 rfl) (rz_cons (rz_iast G d_Co_add_25) (rz_cons (rz_goto (npc := 0) G d_Co_add_26 (by decide)) rz_nil))))))))))))))))
  | 1 => (rz_cons (rz_aload_n G d_Co_add_29 rfl) (rz_cons (rz_iconst G d_Co_add_30 (by decide)) (rz_cons (rz_putz G rfl in_Co ty_Co tyok_Co nm_Co (by decide) rfl (by decide +kernel) wd_200 d_Co_add_31) (rz_fall rfl))))
  | 2 => (rz_cons (rz_vret (npc := 0) d_Co_add_34) rz_nil)
  | _ + 3 => rz_nil
set_option maxRecDepth 100000 in
set_option maxHeartbeats 4000000 in
theorem bd_Co_add : ∀ (Y : Nat → rz_K) (P : rz_P), (∀ b ls st μ, rz_ex P Y (bk_Co_add b) ls st μ → Y b ls st μ) → ∀ As μ, C_Co_add As μ P → Y 0 (rz_pad 2 (rz_ent As)) [] μ := by
  intro Y P hY As μ hC
  obtain ⟨x, rfl, h0, hC⟩ := hC
  exact hY 0 _ _ _ (And.intro (fun h => hY 1 _ _ _ (And.intro (Or.inr rfl) (hY 2 _ _ _ (rzT (P none) h hC)))) (fun h => And.intro (vi_lt h0 (Int32.not_le.mp h)) (hY 2 _ _ _ (rzF (P none) h hC))))
theorem m_Co_add (E : rz_E) : rz_MV SH CL E y_Co_add 2 (Cond.code y_Co_add c_Co_add 2 none :: rz_tbl) ({ frames := 0, cells := 0, slots := 0, locals := 0 }) C_Co_add := rz_metV (by decide) rfl (fun X _ G => sd_Co_add X G) bd_Co_add
theorem cd_Co_add : rz_Cd rz_tbl y_Co_add c_Co_add 2 none (Cond.code y_Co_add c_Co_add 2 none :: rz_tbl) 1 ({ frames := 0, cells := 0, slots := 0, locals := 0 }) := ⟨rz_good wd_405, ⟨_, rfl⟩, wd_45, by decide +kernel, rfl, rfl⟩
def C_Co_octetClass : rz_C := fun As μ P => As = [.ref 15] ∧ P (some (.int (μ 16 0))) μ
def bk_Co_octetClass : Nat → List rz_T := fun b => match b with
  | 0 => [tz_aload 0, tz_get SH 1 0, tz_iconst 0, tz_iald SH, tz_iret]
  | _ => []
def bp_Co_octetClass : Nat → Nat := fun b => match b with
  | 0 => 0
  | _ => 0
set_option maxRecDepth 100000 in
set_option maxHeartbeats 4000000 in
theorem sd_Co_octetClass (X : rz_X) (G : rz_Cx CL X c_Co_octetClass 1 rz_tbl R_Co ({ frames := 0, cells := 0, slots := 0, locals := 0 })) : ∀ b, rz_SB SH CL X bp_Co_octetClass (rz_RI SH CL X c_Co_octetClass (fun v => narrow .int (.int v) = .int v)) (bk_Co_octetClass b) (bp_Co_octetClass b) := fun b => match b with
  | 0 => (rz_cons (rz_aload_n G d_Co_octetClass_0 rfl) (rz_cons (rz_get G rfl in_Co (by decide) wd_197 d_Co_octetClass_1) (rz_cons (rz_iconst G d_Co_octetClass_4 (by decide)) (rz_cons (rz_iald G d_Co_octetClass_5) (rz_cons (rz_iret (npc := 0) (fun _ => rfl) d_Co_octetClass_6) rz_nil)))))
  | _ + 1 => rz_nil
set_option maxRecDepth 100000 in
set_option maxHeartbeats 4000000 in
theorem bd_Co_octetClass : ∀ (Y : Nat → rz_K) (P : rz_P), (∀ b ls st μ, rz_ex P Y (bk_Co_octetClass b) ls st μ → Y b ls st μ) → ∀ As μ, C_Co_octetClass As μ P → Y 0 (rz_pad 1 (rz_ent As)) [] μ := by
  intro Y P hY As μ hC
  obtain ⟨rfl, hC⟩ := hC
  exact hY 0 _ _ _ (And.intro (vi_c (by decide)) hC)
theorem m_Co_octetClass (E : rz_E) : rz_MI SH CL E y_Co_octetClass 1 (Cond.code y_Co_octetClass c_Co_octetClass 1 (some .int) :: rz_tbl) ({ frames := 0, cells := 0, slots := 0, locals := 0 }) C_Co_octetClass := rz_metI (by decide) rfl (fun X _ G => sd_Co_octetClass X G) bd_Co_octetClass
theorem cd_Co_octetClass : rz_Cd rz_tbl y_Co_octetClass c_Co_octetClass 1 (some .int) (Cond.code y_Co_octetClass c_Co_octetClass 1 (some .int) :: rz_tbl) 0 ({ frames := 0, cells := 0, slots := 0, locals := 0 }) := ⟨rz_good wd_429, ⟨_, rfl⟩, wd_45, by decide +kernel, rfl, rfl⟩
def C_Co_instruction : rz_C := fun As μ P => As = [.ref 15] ∧ P (some (.int (μ 16 1))) μ
def bk_Co_instruction : Nat → List rz_T := fun b => match b with
  | 0 => [tz_aload 0, tz_get SH 1 0, tz_iconst 1, tz_iald SH, tz_iret]
  | _ => []
def bp_Co_instruction : Nat → Nat := fun b => match b with
  | 0 => 0
  | _ => 0
set_option maxRecDepth 100000 in
set_option maxHeartbeats 4000000 in
theorem sd_Co_instruction (X : rz_X) (G : rz_Cx CL X c_Co_instruction 1 rz_tbl R_Co ({ frames := 0, cells := 0, slots := 0, locals := 0 })) : ∀ b, rz_SB SH CL X bp_Co_instruction (rz_RI SH CL X c_Co_instruction (fun v => narrow .int (.int v) = .int v)) (bk_Co_instruction b) (bp_Co_instruction b) := fun b => match b with
  | 0 => (rz_cons (rz_aload_n G d_Co_instruction_0 rfl) (rz_cons (rz_get G rfl in_Co (by decide) wd_197 d_Co_instruction_1) (rz_cons (rz_iconst G d_Co_instruction_4 (by decide)) (rz_cons (rz_iald G d_Co_instruction_5) (rz_cons (rz_iret (npc := 0) (fun _ => rfl) d_Co_instruction_6) rz_nil)))))
  | _ + 1 => rz_nil
set_option maxRecDepth 100000 in
set_option maxHeartbeats 4000000 in
theorem bd_Co_instruction : ∀ (Y : Nat → rz_K) (P : rz_P), (∀ b ls st μ, rz_ex P Y (bk_Co_instruction b) ls st μ → Y b ls st μ) → ∀ As μ, C_Co_instruction As μ P → Y 0 (rz_pad 1 (rz_ent As)) [] μ := by
  intro Y P hY As μ hC
  obtain ⟨rfl, hC⟩ := hC
  exact hY 0 _ _ _ (And.intro (vi_c (by decide)) hC)
theorem m_Co_instruction (E : rz_E) : rz_MI SH CL E y_Co_instruction 1 (Cond.code y_Co_instruction c_Co_instruction 1 (some .int) :: rz_tbl) ({ frames := 0, cells := 0, slots := 0, locals := 0 }) C_Co_instruction := rz_metI (by decide) rfl (fun X _ G => sd_Co_instruction X G) bd_Co_instruction
theorem cd_Co_instruction : rz_Cd rz_tbl y_Co_instruction c_Co_instruction 1 (some .int) (Cond.code y_Co_instruction c_Co_instruction 1 (some .int) :: rz_tbl) 0 ({ frames := 0, cells := 0, slots := 0, locals := 0 }) := ⟨rz_good wd_433, ⟨_, rfl⟩, wd_45, by decide +kernel, rfl, rfl⟩
def C_Co_a : rz_C := fun As μ P => As = [.ref 15] ∧ P (some (.int (μ 16 2))) μ
def bk_Co_a : Nat → List rz_T := fun b => match b with
  | 0 => [tz_aload 0, tz_get SH 1 0, tz_iconst 2, tz_iald SH, tz_iret]
  | _ => []
def bp_Co_a : Nat → Nat := fun b => match b with
  | 0 => 0
  | _ => 0
set_option maxRecDepth 100000 in
set_option maxHeartbeats 4000000 in
theorem sd_Co_a (X : rz_X) (G : rz_Cx CL X c_Co_a 1 rz_tbl R_Co ({ frames := 0, cells := 0, slots := 0, locals := 0 })) : ∀ b, rz_SB SH CL X bp_Co_a (rz_RI SH CL X c_Co_a (fun v => narrow .int (.int v) = .int v)) (bk_Co_a b) (bp_Co_a b) := fun b => match b with
  | 0 => (rz_cons (rz_aload_n G d_Co_a_0 rfl) (rz_cons (rz_get G rfl in_Co (by decide) wd_197 d_Co_a_1) (rz_cons (rz_iconst G d_Co_a_4 (by decide)) (rz_cons (rz_iald G d_Co_a_5) (rz_cons (rz_iret (npc := 0) (fun _ => rfl) d_Co_a_6) rz_nil)))))
  | _ + 1 => rz_nil
set_option maxRecDepth 100000 in
set_option maxHeartbeats 4000000 in
theorem bd_Co_a : ∀ (Y : Nat → rz_K) (P : rz_P), (∀ b ls st μ, rz_ex P Y (bk_Co_a b) ls st μ → Y b ls st μ) → ∀ As μ, C_Co_a As μ P → Y 0 (rz_pad 1 (rz_ent As)) [] μ := by
  intro Y P hY As μ hC
  obtain ⟨rfl, hC⟩ := hC
  exact hY 0 _ _ _ (And.intro (vi_c (by decide)) hC)
theorem m_Co_a (E : rz_E) : rz_MI SH CL E y_Co_a 1 (Cond.code y_Co_a c_Co_a 1 (some .int) :: rz_tbl) ({ frames := 0, cells := 0, slots := 0, locals := 0 }) C_Co_a := rz_metI (by decide) rfl (fun X _ G => sd_Co_a X G) bd_Co_a
theorem cd_Co_a : rz_Cd rz_tbl y_Co_a c_Co_a 1 (some .int) (Cond.code y_Co_a c_Co_a 1 (some .int) :: rz_tbl) 0 ({ frames := 0, cells := 0, slots := 0, locals := 0 }) := ⟨rz_good wd_441, ⟨_, rfl⟩, wd_45, by decide +kernel, rfl, rfl⟩
def C_Co_b : rz_C := fun As μ P => As = [.ref 15] ∧ P (some (.int (μ 16 3))) μ
def bk_Co_b : Nat → List rz_T := fun b => match b with
  | 0 => [tz_aload 0, tz_get SH 1 0, tz_iconst 3, tz_iald SH, tz_iret]
  | _ => []
def bp_Co_b : Nat → Nat := fun b => match b with
  | 0 => 0
  | _ => 0
set_option maxRecDepth 100000 in
set_option maxHeartbeats 4000000 in
theorem sd_Co_b (X : rz_X) (G : rz_Cx CL X c_Co_b 1 rz_tbl R_Co ({ frames := 0, cells := 0, slots := 0, locals := 0 })) : ∀ b, rz_SB SH CL X bp_Co_b (rz_RI SH CL X c_Co_b (fun v => narrow .int (.int v) = .int v)) (bk_Co_b b) (bp_Co_b b) := fun b => match b with
  | 0 => (rz_cons (rz_aload_n G d_Co_b_0 rfl) (rz_cons (rz_get G rfl in_Co (by decide) wd_197 d_Co_b_1) (rz_cons (rz_iconst G d_Co_b_4 (by decide)) (rz_cons (rz_iald G d_Co_b_5) (rz_cons (rz_iret (npc := 0) (fun _ => rfl) d_Co_b_6) rz_nil)))))
  | _ + 1 => rz_nil
set_option maxRecDepth 100000 in
set_option maxHeartbeats 4000000 in
theorem bd_Co_b : ∀ (Y : Nat → rz_K) (P : rz_P), (∀ b ls st μ, rz_ex P Y (bk_Co_b b) ls st μ → Y b ls st μ) → ∀ As μ, C_Co_b As μ P → Y 0 (rz_pad 1 (rz_ent As)) [] μ := by
  intro Y P hY As μ hC
  obtain ⟨rfl, hC⟩ := hC
  exact hY 0 _ _ _ (And.intro (vi_c (by decide)) hC)
theorem m_Co_b (E : rz_E) : rz_MI SH CL E y_Co_b 1 (Cond.code y_Co_b c_Co_b 1 (some .int) :: rz_tbl) ({ frames := 0, cells := 0, slots := 0, locals := 0 }) C_Co_b := rz_metI (by decide) rfl (fun X _ G => sd_Co_b X G) bd_Co_b
theorem cd_Co_b : rz_Cd rz_tbl y_Co_b c_Co_b 1 (some .int) (Cond.code y_Co_b c_Co_b 1 (some .int) :: rz_tbl) 0 ({ frames := 0, cells := 0, slots := 0, locals := 0 }) := ⟨rz_good wd_445, ⟨_, rfl⟩, wd_45, by decide +kernel, rfl, rfl⟩
def C_Co_place : rz_C := fun As μ P => As = [.ref 15] ∧ P (some (.int ((μ 16 2 <<< ((8 : Int32) &&& 31)) ||| μ 16 3))) μ
def bk_Co_place : Nat → List rz_T := fun b => match b with
  | 0 => [tz_aload 0, tz_cv SH 0 1 1 C_Co_a, tz_bipush 8, tz_ishl, tz_aload 0, tz_cv SH 0 1 1 C_Co_b, tz_ior, tz_iret]
  | _ => []
def bp_Co_place : Nat → Nat := fun b => match b with
  | 0 => 0
  | _ => 0
set_option maxRecDepth 100000 in
set_option maxHeartbeats 4000000 in
theorem sd_Co_place (X : rz_X) (G : rz_Cx CL X c_Co_place 1 rz_tbl R_Co ({ frames := 1, cells := 0, slots := 0, locals := 20 })) : ∀ b, rz_SB SH CL X bp_Co_place (rz_RI SH CL X c_Co_place (fun v => narrow .int (.int v) = .int v)) (bk_Co_place b) (bp_Co_place b) := fun b => match b with
  | 0 => (rz_cons (rz_aload_n G d_Co_place_0 rfl) (rz_cons (rz_cvi G (m_Co_a X.1) cd_Co_a wd_473 wd_439 wd_440 rfl rfl (by decide) d_Co_place_1) (rz_cons (rz_bipush G d_Co_place_4 (by decide)) (rz_cons (rz_ishl G d_Co_place_6) (rz_cons (rz_aload_n G d_Co_place_7 rfl) (rz_cons (rz_cvi G (m_Co_b X.1) cd_Co_b wd_474 wd_443 wd_444 rfl rfl (by decide) d_Co_place_8) (rz_cons (rz_ior G d_Co_place_11) (rz_cons (rz_iret (npc := 0) (fun _ => rfl) d_Co_place_12) rz_nil))))))))
  | _ + 1 => rz_nil
set_option maxRecDepth 100000 in
set_option maxHeartbeats 4000000 in
theorem bd_Co_place : ∀ (Y : Nat → rz_K) (P : rz_P), (∀ b ls st μ, rz_ex P Y (bk_Co_place b) ls st μ → Y b ls st μ) → ∀ As μ, C_Co_place As μ P → Y 0 (rz_pad 1 (rz_ent As)) [] μ := by
  intro Y P hY As μ hC
  obtain ⟨rfl, hC⟩ := hC
  exact hY 0 _ _ _ (And.intro rfl (And.intro rfl hC))
theorem m_Co_place (E : rz_E) : rz_MI SH CL E y_Co_place 1 (Cond.code y_Co_place c_Co_place 1 (some .int) :: rz_tbl) ({ frames := 1, cells := 0, slots := 0, locals := 20 }) C_Co_place := rz_metI (by decide) rfl (fun X _ G => sd_Co_place X G) bd_Co_place
theorem cd_Co_place : rz_Cd rz_tbl y_Co_place c_Co_place 1 (some .int) (Cond.code y_Co_place c_Co_place 1 (some .int) :: rz_tbl) 0 ({ frames := 1, cells := 0, slots := 0, locals := 20 }) := ⟨rz_good wd_472, ⟨_, rfl⟩, wd_45, by decide +kernel, rfl, rfl⟩
def C_Co_data : rz_C := fun As μ P => ∃ k, As = [.ref 15, .int k] ∧ ¬ k < 0 ∧ ¬ 32 ≤ k ∧ P (some (.int (μ 16 (5 + k).toNatClampNeg))) μ
def bk_Co_data : Nat → List rz_T := fun b => match b with
  | 0 => [tz_iload 1, tz_if_lt 1, tz_iload 1, tz_bipush 32, tz_icmp_ge 1, tz_aload 0, tz_get SH 1 0, tz_iconst 5, tz_iload 1, tz_iadd, tz_iald SH, tz_goto 2]
  | 1 => [tz_iconst 0, tz_fall 2]
  | 2 => [tz_iret]
  | _ => []
def bp_Co_data : Nat → Nat := fun b => match b with
  | 0 => 0
  | 1 => 21
  | 2 => 22
  | _ => 0
set_option maxRecDepth 100000 in
set_option maxHeartbeats 4000000 in
theorem sd_Co_data (X : rz_X) (G : rz_Cx CL X c_Co_data 2 rz_tbl R_Co ({ frames := 0, cells := 0, slots := 0, locals := 0 })) : ∀ b, rz_SB SH CL X bp_Co_data (rz_RI SH CL X c_Co_data (fun v => narrow .int (.int v) = .int v)) (bk_Co_data b) (bp_Co_data b) := fun b => match b with
  | 0 => (rz_cons (rz_iload_n G d_Co_data_0 rfl) (rz_cons (rz_if_lt G d_Co_data_1 (by decide)) (rz_cons (rz_iload_n G d_Co_data_4 rfl) (rz_cons (rz_bipush G d_Co_data_5 (by decide)) (rz_cons (rz_icmp_ge G d_Co_data_7 (by decide)) (rz_cons (rz_aload_n G d_Co_data_10 rfl) (rz_cons (rz_get G rfl in_Co (by decide) wd_197 d_Co_data_11) (rz_cons (rz_iconst G d_Co_data_14 (by decide)) (rz_cons (rz_iload_n G d_Co_data_15 rfl) (rz_cons (rz_iadd G d_Co_data_16) (rz_cons (rz_iald G d_Co_data_17) (rz_cons (rz_goto (npc := 0) G d_Co_data_18 (by decide)) rz_nil))))))))))))
  | 1 => (rz_cons (rz_iconst G d_Co_data_21 (by decide)) (rz_fall rfl))
  | 2 => (rz_cons (rz_iret (npc := 0) (fun _ => rfl) d_Co_data_22) rz_nil)
  | _ + 3 => rz_nil
set_option maxRecDepth 100000 in
set_option maxHeartbeats 4000000 in
theorem bd_Co_data : ∀ (Y : Nat → rz_K) (P : rz_P), (∀ b ls st μ, rz_ex P Y (bk_Co_data b) ls st μ → Y b ls st μ) → ∀ As μ, C_Co_data As μ P → Y 0 (rz_pad 2 (rz_ent As)) [] μ := by
  intro Y P hY As μ hC
  obtain ⟨k, rfl, h0, h1, hC⟩ := hC
  refine hY 0 _ _ _ (And.intro (fun h => absurd h h0) (fun _ => And.intro (fun h => absurd h h1) (fun _ => And.intro ?_ (hY 2 _ _ _ hC))))
  rw [vp_in_iff]
  rw [i_lt] at h0
  rw [i_le] at h1
  have e0 : (0 : Int32).toInt = 0 := rfl
  have e1 : (32 : Int32).toInt = 32 := rfl
  have e5 : (5 : Int32).toInt = 5 := rfl
  rw [i_add (by omega) (by omega)]
  omega
theorem m_Co_data (E : rz_E) : rz_MI SH CL E y_Co_data 2 (Cond.code y_Co_data c_Co_data 2 (some .int) :: rz_tbl) ({ frames := 0, cells := 0, slots := 0, locals := 0 }) C_Co_data := rz_metI (by decide) rfl (fun X _ G => sd_Co_data X G) bd_Co_data
theorem cd_Co_data : rz_Cd rz_tbl y_Co_data c_Co_data 2 (some .int) (Cond.code y_Co_data c_Co_data 2 (some .int) :: rz_tbl) 1 ({ frames := 0, cells := 0, slots := 0, locals := 0 }) := ⟨rz_good wd_453, ⟨_, rfl⟩, wd_45, by decide +kernel, rfl, rfl⟩
def C_Co_dataAsName : rz_C := fun As μ P => As = [.ref 15] ∧ P (some (.int ((μ 16 5 <<< ((8 : Int32) &&& 31)) ||| μ 16 6))) μ
def bk_Co_dataAsName : Nat → List rz_T := fun b => match b with
  | 0 => [tz_aload 0, tz_iconst 0, tz_cv SH 1 1 2 C_Co_data, tz_bipush 8, tz_ishl, tz_aload 0, tz_iconst 1, tz_cv SH 1 1 2 C_Co_data, tz_ior, tz_iret]
  | _ => []
def bp_Co_dataAsName : Nat → Nat := fun b => match b with
  | 0 => 0
  | _ => 0
set_option maxRecDepth 100000 in
set_option maxHeartbeats 4000000 in
theorem sd_Co_dataAsName (X : rz_X) (G : rz_Cx CL X c_Co_dataAsName 1 rz_tbl R_Co ({ frames := 1, cells := 0, slots := 0, locals := 21 })) : ∀ b, rz_SB SH CL X bp_Co_dataAsName (rz_RI SH CL X c_Co_dataAsName (fun v => narrow .int (.int v) = .int v)) (bk_Co_dataAsName b) (bp_Co_dataAsName b) := fun b => match b with
  | 0 => (rz_cons (rz_aload_n G d_Co_dataAsName_0 rfl) (rz_cons (rz_iconst G d_Co_dataAsName_1 (by decide)) (rz_cons (rz_cvi G (m_Co_data X.1) cd_Co_data wd_450 wd_451 wd_452 rfl rfl (by decide) d_Co_dataAsName_2) (rz_cons (rz_bipush G d_Co_dataAsName_5 (by decide)) (rz_cons (rz_ishl G d_Co_dataAsName_7) (rz_cons (rz_aload_n G d_Co_dataAsName_8 rfl) (rz_cons (rz_iconst G d_Co_dataAsName_9 (by decide)) (rz_cons (rz_cvi G (m_Co_data X.1) cd_Co_data wd_450 wd_451 wd_452 rfl rfl (by decide) d_Co_dataAsName_10) (rz_cons (rz_ior G d_Co_dataAsName_13) (rz_cons (rz_iret (npc := 0) (fun _ => rfl) d_Co_dataAsName_14) rz_nil))))))))))
  | _ + 1 => rz_nil
set_option maxRecDepth 100000 in
set_option maxHeartbeats 4000000 in
theorem bd_Co_dataAsName : ∀ (Y : Nat → rz_K) (P : rz_P), (∀ b ls st μ, rz_ex P Y (bk_Co_dataAsName b) ls st μ → Y b ls st μ) → ∀ As μ, C_Co_dataAsName As μ P → Y 0 (rz_pad 1 (rz_ent As)) [] μ := by
  intro Y P hY As μ hC
  obtain ⟨rfl, hC⟩ := hC
  exact hY 0 _ _ _ (Exists.intro 0 (And.intro rfl (And.intro (by decide) (And.intro (by decide) (Exists.intro 1 (And.intro rfl (And.intro (by decide) (And.intro (by decide) hC))))))))
theorem m_Co_dataAsName (E : rz_E) : rz_MI SH CL E y_Co_dataAsName 1 (Cond.code y_Co_dataAsName c_Co_dataAsName 1 (some .int) :: rz_tbl) ({ frames := 1, cells := 0, slots := 0, locals := 21 }) C_Co_dataAsName := rz_metI (by decide) rfl (fun X _ G => sd_Co_dataAsName X G) bd_Co_dataAsName
theorem cd_Co_dataAsName : rz_Cd rz_tbl y_Co_dataAsName c_Co_dataAsName 1 (some .int) (Cond.code y_Co_dataAsName c_Co_dataAsName 1 (some .int) :: rz_tbl) 0 ({ frames := 1, cells := 0, slots := 0, locals := 21 }) := ⟨rz_good wd_449, ⟨_, rfl⟩, wd_45, by decide +kernel, rfl, rfl⟩
def C_Co_dataAsSecret : rz_C := fun As μ P => As = [.ref 15] ∧ P (some (.int ((((μ 16 5 <<< ((24 : Int32) &&& 31)) ||| (μ 16 6 <<< ((16 : Int32) &&& 31))) ||| (μ 16 7 <<< ((8 : Int32) &&& 31))) ||| μ 16 8))) μ
def bk_Co_dataAsSecret : Nat → List rz_T := fun b => match b with
  | 0 => [tz_aload 0, tz_iconst 0, tz_cv SH 1 1 2 C_Co_data, tz_bipush 24, tz_ishl, tz_aload 0, tz_iconst 1, tz_cv SH 1 1 2 C_Co_data, tz_bipush 16, tz_ishl, tz_ior, tz_aload 0, tz_iconst 2, tz_cv SH 1 1 2 C_Co_data, tz_bipush 8, tz_ishl, tz_ior, tz_aload 0, tz_iconst 3, tz_cv SH 1 1 2 C_Co_data, tz_ior, tz_iret]
  | _ => []
def bp_Co_dataAsSecret : Nat → Nat := fun b => match b with
  | 0 => 0
  | _ => 0
set_option maxRecDepth 100000 in
set_option maxHeartbeats 4000000 in
theorem sd_Co_dataAsSecret (X : rz_X) (G : rz_Cx CL X c_Co_dataAsSecret 1 rz_tbl R_Co ({ frames := 1, cells := 0, slots := 0, locals := 21 })) : ∀ b, rz_SB SH CL X bp_Co_dataAsSecret (rz_RI SH CL X c_Co_dataAsSecret (fun v => narrow .int (.int v) = .int v)) (bk_Co_dataAsSecret b) (bp_Co_dataAsSecret b) := fun b => match b with
  | 0 => (rz_cons (rz_aload_n G d_Co_dataAsSecret_0 rfl) (rz_cons (rz_iconst G d_Co_dataAsSecret_1 (by decide)) (rz_cons (rz_cvi G (m_Co_data X.1) cd_Co_data wd_450 wd_451 wd_452 rfl rfl (by decide) d_Co_dataAsSecret_2) (rz_cons (rz_bipush G d_Co_dataAsSecret_5 (by decide)) (rz_cons (rz_ishl G d_Co_dataAsSecret_7) (rz_cons (rz_aload_n G d_Co_dataAsSecret_8 rfl) (rz_cons (rz_iconst G d_Co_dataAsSecret_9 (by decide)) (rz_cons (rz_cvi G (m_Co_data X.1) cd_Co_data wd_450 wd_451 wd_452 rfl rfl (by decide) d_Co_dataAsSecret_10) (rz_cons (rz_bipush G d_Co_dataAsSecret_13 (by decide)) (rz_cons (rz_ishl G d_Co_dataAsSecret_15) (rz_cons (rz_ior G d_Co_dataAsSecret_16) (rz_cons (rz_aload_n G d_Co_dataAsSecret_17 rfl) (rz_cons (rz_iconst G d_Co_dataAsSecret_18 (by decide)) (rz_cons (rz_cvi G (m_Co_data X.1) cd_Co_data wd_450 wd_451 wd_452 rfl rfl (by decide) d_Co_dataAsSecret_19) (rz_cons (rz_bipush G d_Co_dataAsSecret_22 (by decide)) (rz_cons (rz_ishl G d_Co_dataAsSecret_24) (rz_cons (rz_ior G d_Co_dataAsSecret_25) (rz_cons (rz_aload_n G d_Co_dataAsSecret_26 rfl) (rz_cons (rz_iconst G d_Co_dataAsSecret_27 (by decide)) (rz_cons (rz_cvi G (m_Co_data X.1) cd_Co_data wd_450 wd_451 wd_452 rfl rfl (by decide) d_Co_dataAsSecret_28) (rz_cons (rz_ior G d_Co_dataAsSecret_31) (rz_cons (rz_iret (npc := 0) (fun _ => rfl) d_Co_dataAsSecret_32) rz_nil))))))))))))))))))))))
  | _ + 1 => rz_nil
set_option maxRecDepth 100000 in
set_option maxHeartbeats 4000000 in
theorem bd_Co_dataAsSecret : ∀ (Y : Nat → rz_K) (P : rz_P), (∀ b ls st μ, rz_ex P Y (bk_Co_dataAsSecret b) ls st μ → Y b ls st μ) → ∀ As μ, C_Co_dataAsSecret As μ P → Y 0 (rz_pad 1 (rz_ent As)) [] μ := by
  intro Y P hY As μ hC
  obtain ⟨rfl, hC⟩ := hC
  exact hY 0 _ _ _ (Exists.intro 0 (And.intro rfl (And.intro (by decide) (And.intro (by decide) (Exists.intro 1 (And.intro rfl (And.intro (by decide) (And.intro (by decide) (Exists.intro 2 (And.intro rfl (And.intro (by decide) (And.intro (by decide) (Exists.intro 3 (And.intro rfl (And.intro (by decide) (And.intro (by decide) hC))))))))))))))))
theorem m_Co_dataAsSecret (E : rz_E) : rz_MI SH CL E y_Co_dataAsSecret 1 (Cond.code y_Co_dataAsSecret c_Co_dataAsSecret 1 (some .int) :: rz_tbl) ({ frames := 1, cells := 0, slots := 0, locals := 21 }) C_Co_dataAsSecret := rz_metI (by decide) rfl (fun X _ G => sd_Co_dataAsSecret X G) bd_Co_dataAsSecret
theorem cd_Co_dataAsSecret : rz_Cd rz_tbl y_Co_dataAsSecret c_Co_dataAsSecret 1 (some .int) (Cond.code y_Co_dataAsSecret c_Co_dataAsSecret 1 (some .int) :: rz_tbl) 0 ({ frames := 1, cells := 0, slots := 0, locals := 21 }) := ⟨rz_good wd_524, ⟨_, rfl⟩, wd_45, by decide +kernel, rfl, rfl⟩
def q_dl (μ : rz_M) : Int32 := if ¬ μ 15 2 = 0 then 0 else if 4 ≤ μ 15 1 then (if μ 15 1 ≤ 5 then 0 else μ 16 4) else 0
def q_en (μ : rz_M) : Int32 := if q_dl μ ≤ 0 then 4 else 5 + q_dl μ
abbrev p_ok (μ : rz_M) : Prop := μ 15 2 = 0 ∧ 4 ≤ μ 15 1 ∧ ¬ 32 < q_dl μ ∧ ¬ μ 15 1 < q_en μ ∧ μ 15 1 ≤ q_en μ + 1
def q_ex (μ : rz_M) : Int32 := if p_ok μ ∧ ¬ μ 15 1 ≤ q_en μ then (if ¬ μ 16 (q_en μ).toNatClampNeg = 0 then μ 16 (q_en μ).toNatClampNeg else 32) else -1
def f_parse (μ : rz_M) : rz_M := rz_up (rz_up μ 15 3 (q_dl μ)) 15 4 (q_ex μ)
def C_Co_parse : rz_C := fun As μ P => As = [.ref 15] ∧ μ 15 1 ≤ 40 ∧ P (some (.int (b2 (p_ok μ)))) (f_parse μ)
def bk_Co_parse : Nat → List rz_T := fun b => match b with
  | 0 => [tz_aload 0, tz_iconst 0, tz_put SH 1 3, tz_aload 0, tz_iconst (-1), tz_put SH 1 4, tz_aload 0, tz_get SH 1 2, tz_if_ne 1, tz_aload 0, tz_get SH 1 1, tz_iconst 4, tz_icmp_ge 2, tz_fall 1]
  | 1 => [tz_iconst 0, tz_zret]
  | 2 => [tz_aload 0, tz_get SH 1 1, tz_iconst 5, tz_icmp_le 3, tz_aload 0, tz_aload 0, tz_get SH 1 0, tz_iconst 4, tz_iald SH, tz_put SH 1 3, tz_fall 3]
  | 3 => [tz_aload 0, tz_get SH 1 3, tz_if_le 4, tz_iconst 5, tz_aload 0, tz_get SH 1 3, tz_iadd, tz_goto 5]
  | 4 => [tz_iconst 4, tz_fall 5]
  | 5 => [tz_istore 1, tz_aload 0, tz_get SH 1 3, tz_bipush 32, tz_icmp_gt 6, tz_aload 0, tz_get SH 1 1, tz_iload 1, tz_icmp_lt 6, tz_aload 0, tz_get SH 1 1, tz_iload 1, tz_iconst 1, tz_iadd, tz_icmp_le 7, tz_fall 6]
  | 6 => [tz_iconst 0, tz_zret]
  | 7 => [tz_aload 0, tz_get SH 1 1, tz_iload 1, tz_icmp_le 10, tz_aload 0, tz_aload 0, tz_get SH 1 0, tz_iload 1, tz_iald SH, tz_if_ne 8, tz_bipush 32, tz_goto 9]
  | 8 => [tz_aload 0, tz_get SH 1 0, tz_iload 1, tz_iald SH, tz_fall 9]
  | 9 => [tz_put SH 1 4, tz_fall 10]
  | 10 => [tz_iconst 1, tz_zret]
  | _ => []
def bp_Co_parse : Nat → Nat := fun b => match b with
  | 0 => 0
  | 1 => 25
  | 2 => 27
  | 3 => 45
  | 4 => 61
  | 5 => 62
  | 6 => 90
  | 7 => 92
  | 8 => 115
  | 9 => 121
  | 10 => 124
  | _ => 0
set_option maxRecDepth 100000 in
set_option maxHeartbeats 4000000 in
theorem sd_Co_parse (X : rz_X) (G : rz_Cx CL X c_Co_parse 2 rz_tbl R_Co ({ frames := 0, cells := 0, slots := 0, locals := 0 })) : ∀ b, rz_SB SH CL X bp_Co_parse (rz_RI SH CL X c_Co_parse (fun v => narrow .boolean (.int v) = .int v)) (bk_Co_parse b) (bp_Co_parse b) := fun b => match b with
  | 0 => (rz_cons (rz_aload_n G d_Co_parse_0 rfl) (rz_cons (rz_iconst G d_Co_parse_1 (by decide)) (rz_cons (rz_put G rfl in_Co ty_Co tyok_Co nm_Co (by decide) rfl (by decide +kernel) wd_202 d_Co_parse_2) (rz_cons (rz_aload_n G d_Co_parse_5 rfl) (rz_cons (rz_iconst G d_Co_parse_6 (by decide)) (rz_cons (rz_put G rfl in_Co ty_Co tyok_Co nm_Co (by decide) rfl (by decide +kernel) wd_204 d_Co_parse_7) (rz_cons (rz_aload_n G d_Co_parse_10 rfl) (rz_cons (rz_get G rfl in_Co (by decide) wd_200 d_Co_parse_11) (rz_cons (rz_if_ne G d_Co_parse_14 (by decide)) (rz_cons (rz_aload_n G d_Co_parse_17 rfl) (rz_cons (rz_get G rfl in_Co (by decide) wd_198 d_Co_parse_18) (rz_cons (rz_iconst G d_Co_parse_21 (by decide)) (rz_cons (rz_icmp_ge G d_Co_parse_22 (by decide)) (rz_fall rfl))))))))))))))
  | 1 => (rz_cons (rz_iconst G d_Co_parse_25 (by decide)) (rz_cons (rz_zret (npc := 0) (by rintro v (rfl | rfl) <;> rfl) d_Co_parse_26) rz_nil))
  | 2 => (rz_cons (rz_aload_n G d_Co_parse_27 rfl) (rz_cons (rz_get G rfl in_Co (by decide) wd_198 d_Co_parse_28) (rz_cons (rz_iconst G d_Co_parse_31 (by decide)) (rz_cons (rz_icmp_le G d_Co_parse_32 (by decide)) (rz_cons (rz_aload_n G d_Co_parse_35 rfl) (rz_cons (rz_aload_n G d_Co_parse_36 rfl) (rz_cons (rz_get G rfl in_Co (by decide) wd_197 d_Co_parse_37) (rz_cons (rz_iconst G d_Co_parse_40 (by decide)) (rz_cons (rz_iald G d_Co_parse_41) (rz_cons (rz_put G rfl in_Co ty_Co tyok_Co nm_Co (by decide) rfl (by decide +kernel) wd_202 d_Co_parse_42) (rz_fall rfl)))))))))))
  | 3 => (rz_cons (rz_aload_n G d_Co_parse_45 rfl) (rz_cons (rz_get G rfl in_Co (by decide) wd_202 d_Co_parse_46) (rz_cons (rz_if_le G d_Co_parse_49 (by decide)) (rz_cons (rz_iconst G d_Co_parse_52 (by decide)) (rz_cons (rz_aload_n G d_Co_parse_53 rfl) (rz_cons (rz_get G rfl in_Co (by decide) wd_202 d_Co_parse_54) (rz_cons (rz_iadd G d_Co_parse_57) (rz_cons (rz_goto (npc := 0) G d_Co_parse_58 (by decide)) rz_nil))))))))
  | 4 => (rz_cons (rz_iconst G d_Co_parse_61 (by decide)) (rz_fall rfl))
  | 5 => (rz_cons (rz_istore_n G d_Co_parse_62 rfl (by decide)) (rz_cons (rz_aload_n G d_Co_parse_63 rfl) (rz_cons (rz_get G rfl in_Co (by decide) wd_202 d_Co_parse_64) (rz_cons (rz_bipush G d_Co_parse_67 (by decide)) (rz_cons (rz_icmp_gt G d_Co_parse_69 (by decide)) (rz_cons (rz_aload_n G d_Co_parse_72 rfl) (rz_cons (rz_get G rfl in_Co (by decide) wd_198 d_Co_parse_73) (rz_cons (rz_iload_n G d_Co_parse_76 rfl) (rz_cons (rz_icmp_lt G d_Co_parse_77 (by decide)) (rz_cons (rz_aload_n G d_Co_parse_80 rfl) (rz_cons (rz_get G rfl in_Co (by decide) wd_198 d_Co_parse_81) (rz_cons (rz_iload_n G d_Co_parse_84 rfl) (rz_cons (rz_iconst G d_Co_parse_85 (by decide)) (rz_cons (rz_iadd G d_Co_parse_86) (rz_cons (rz_icmp_le G d_Co_parse_87 (by decide)) (rz_fall rfl))))))))))))))))
  | 6 => (rz_cons (rz_iconst G d_Co_parse_90 (by decide)) (rz_cons (rz_zret (npc := 0) (by rintro v (rfl | rfl) <;> rfl) d_Co_parse_91) rz_nil))
  | 7 => (rz_cons (rz_aload_n G d_Co_parse_92 rfl) (rz_cons (rz_get G rfl in_Co (by decide) wd_198 d_Co_parse_93) (rz_cons (rz_iload_n G d_Co_parse_96 rfl) (rz_cons (rz_icmp_le G d_Co_parse_97 (by decide)) (rz_cons (rz_aload_n G d_Co_parse_100 rfl) (rz_cons (rz_aload_n G d_Co_parse_101 rfl) (rz_cons (rz_get G rfl in_Co (by decide) wd_197 d_Co_parse_102) (rz_cons (rz_iload_n G d_Co_parse_105 rfl) (rz_cons (rz_iald G d_Co_parse_106) (rz_cons (rz_if_ne G d_Co_parse_107 (by decide)) (rz_cons (rz_bipush G d_Co_parse_110 (by decide)) (rz_cons (rz_goto (npc := 0) G d_Co_parse_112 (by decide)) rz_nil))))))))))))
  | 8 => (rz_cons (rz_aload_n G d_Co_parse_115 rfl) (rz_cons (rz_get G rfl in_Co (by decide) wd_197 d_Co_parse_116) (rz_cons (rz_iload_n G d_Co_parse_119 rfl) (rz_cons (rz_iald G d_Co_parse_120) (rz_fall rfl)))))
  | 9 => (rz_cons (rz_put G rfl in_Co ty_Co tyok_Co nm_Co (by decide) rfl (by decide +kernel) wd_204 d_Co_parse_121) (rz_fall rfl))
  | 10 => (rz_cons (rz_iconst G d_Co_parse_124 (by decide)) (rz_cons (rz_zret (npc := 0) (by rintro v (rfl | rfl) <;> rfl) d_Co_parse_125) rz_nil))
  | _ + 11 => rz_nil
set_option maxRecDepth 100000 in
set_option maxHeartbeats 4000000 in
theorem bd_Co_parse : ∀ (Y : Nat → rz_K) (P : rz_P), (∀ b ls st μ, rz_ex P Y (bk_Co_parse b) ls st μ → Y b ls st μ) → ∀ As μ, C_Co_parse As μ P → Y 0 (rz_pad 2 (rz_ent As)) [] μ := by
  intro Y P hY As μ hC
  obtain ⟨rfl, h40, hC⟩ := hC
  unfold f_parse at hC
  have tail : ∀ (ν : rz_M) (z : Int32), ν = rz_up (rz_up μ 15 3 (q_dl μ)) 15 4 (-1) → z = q_en μ → μ 15 2 = 0 → 4 ≤ μ 15 1 → Y 5 [some (.ref 15), none] [.int z] ν := by
    intro ν z hν hz ht hl
    subst hν
    subst hz
    have no : ¬ p_ok μ → P (some (.int (b2 (p_ok μ)))) (rz_up (rz_up μ 15 3 (q_dl μ)) 15 4 (-1)) := by
      intro hn
      have e : q_ex μ = -1 := if_neg (fun q => hn q.1)
      rw [e] at hC
      exact hC
    refine hY 5 _ _ _ (And.intro (fun (h : 32 < q_dl μ) => ?_) (fun (h1 : ¬ 32 < q_dl μ) => And.intro (fun (h : μ 15 1 < q_en μ) => ?_) (fun (h2 : ¬ μ 15 1 < q_en μ) => And.intro (fun (h3 : μ 15 1 ≤ q_en μ + 1) => ?_) (fun (h : ¬ μ 15 1 ≤ q_en μ + 1) => ?_))))
    · have hn : ¬ p_ok μ := fun q => q.2.2.1 h
      exact hY _ _ _ _ (pF (no hn) hn)
    · have hn : ¬ p_ok μ := fun q => q.2.2.2.1 h
      exact hY _ _ _ _ (pF (no hn) hn)
    · have hp : p_ok μ := ⟨ht, hl, h1, h2, h3⟩
      refine hY 7 _ _ _ (And.intro (fun (h : μ 15 1 ≤ q_en μ) => ?_) (fun (h4 : ¬ μ 15 1 ≤ q_en μ) => ?_))
      · have e : q_ex μ = -1 := if_neg (fun q => q.2 h)
        rw [e] at hC
        exact hY _ _ _ _ (pT hC hp)
      · have e : q_ex μ = (if ¬ μ 16 (q_en μ).toNatClampNeg = 0 then μ 16 (q_en μ).toNatClampNeg else 32) := if_pos ⟨hp, h4⟩
        rw [e] at hC
        have hv : vp_in (q_en μ) 40 := by
          refine vi_lt (m := 40) ?_ ?_
          · unfold q_en
            split
            · decide
            · next hd =>
              rw [i_le] at hd ⊢
              rw [i_lt] at h1
              have e1 : (32 : Int32).toInt = 32 := rfl
              have e2 : (0 : Int32).toInt = 0 := rfl
              have e3 : (5 : Int32).toInt = 5 := rfl
              rw [i_add (by omega) (by omega)]
              omega
          · exact Int32.lt_of_lt_of_le (Int32.not_le.mp h4) h40
        refine And.intro hv (And.intro (fun (h : ¬ μ 16 (q_en μ).toNatClampNeg = 0) => ?_) (fun (h : μ 16 (q_en μ).toNatClampNeg = 0) => ?_))
        · refine hY 8 _ _ _ (And.intro hv (hY 9 _ _ _ (hY 10 _ _ _ ?_)))
          rw [if_pos h] at hC
          rw [rz_up_same]
          exact pT hC hp
        · refine hY 9 _ _ _ (hY 10 _ _ _ ?_)
          rw [if_neg (fun q => q h)] at hC
          rw [rz_up_same]
          exact pT hC hp
    · have hn : ¬ p_ok μ := fun q => h q.2.2.2.2
      exact hY _ _ _ _ (pF (no hn) hn)
  have mid : ∀ (ν : rz_M), ν = rz_up (rz_up μ 15 3 (q_dl μ)) 15 4 (-1) → μ 15 2 = 0 → 4 ≤ μ 15 1 → Y 3 [some (.ref 15), none] [] ν := by
    intro ν hν ht hl
    subst hν
    refine hY 3 _ _ _ (And.intro (fun (h : q_dl μ ≤ 0) => ?_) (fun (h : ¬ q_dl μ ≤ 0) => ?_))
    · exact hY 4 _ _ _ (tail _ _ rfl (if_pos h).symm ht hl)
    · exact tail _ _ rfl (if_neg h).symm ht hl
  refine hY 0 _ _ _ (And.intro (fun (h : ¬ μ 15 2 = 0) => ?_) (fun (h : μ 15 2 = 0) => And.intro (fun (h1 : 4 ≤ μ 15 1) => ?_) (fun (h1 : ¬ 4 ≤ μ 15 1) => ?_)))
  · have hn : ¬ p_ok μ := fun q => h q.1
    have e : q_ex μ = -1 := if_neg (fun q => hn q.1)
    have e2 : q_dl μ = 0 := if_pos h
    have hC := pF hC hn
    rw [e, e2] at hC
    exact hY _ _ _ _ hC
  · refine hY 2 _ _ _ (And.intro (fun (h2 : μ 15 1 ≤ 5) => ?_) (fun (h2 : ¬ μ 15 1 ≤ 5) => And.intro (vi_c (by decide)) ?_))
    · refine mid _ ?_ h h1
      have e2 : q_dl μ = 0 := by unfold q_dl; rw [if_neg (fun q => q h), if_pos h1, if_pos h2]
      rw [e2]
    · refine mid _ ?_ h h1
      have e2 : q_dl μ = μ 16 4 := by unfold q_dl; rw [if_neg (fun q => q h), if_pos h1, if_neg h2]
      rw [e2, rz_up_comm (Or.inr (by decide)), rz_up_same]
      rfl
  · have hn : ¬ p_ok μ := fun q => h1 q.2.1
    have e : q_ex μ = -1 := if_neg (fun q => hn q.1)
    have e2 : q_dl μ = 0 := by unfold q_dl; rw [if_neg (fun q => q h), if_neg h1]
    have hC := pF hC hn
    rw [e, e2] at hC
    exact hY _ _ _ _ hC
theorem m_Co_parse (E : rz_E) : rz_MI SH CL E y_Co_parse 2 (Cond.code y_Co_parse c_Co_parse 2 (some .boolean) :: rz_tbl) ({ frames := 0, cells := 0, slots := 0, locals := 0 }) C_Co_parse := rz_metI (by decide) rfl (fun X _ G => sd_Co_parse X G) bd_Co_parse
theorem cd_Co_parse : rz_Cd rz_tbl y_Co_parse c_Co_parse 2 (some .boolean) (Cond.code y_Co_parse c_Co_parse 2 (some .boolean) :: rz_tbl) 0 ({ frames := 0, cells := 0, slots := 0, locals := 0 }) := ⟨rz_good wd_425, ⟨_, rfl⟩, wd_45, by decide +kernel, rfl, rfl⟩
