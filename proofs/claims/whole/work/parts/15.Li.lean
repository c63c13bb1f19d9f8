def f_resync (μ : rz_M) : rz_M := rz_up (rz_up (rz_up μ 1 6 0) 1 7 0) 1 5 0
def C_Li_resync : rz_C := fun As μ P => As = [.ref 1] ∧ P none (f_resync μ)
def bk_Li_resync : Nat → List rz_T := fun b => match b with
  | 0 => [tz_aload 0, tz_iconst 0, tz_put SH 3 6, tz_aload 0, tz_iconst 0, tz_put SH 3 7, tz_aload 0, tz_iconst 0, tz_put SH 3 5, tz_vret]
  | _ => []
def bp_Li_resync : Nat → Nat := fun b => match b with
  | 0 => 0
  | _ => 0
set_option maxRecDepth 100000 in
set_option maxHeartbeats 4000000 in
theorem sd_Li_resync (X : rz_X) (G : rz_Cx CL X c_Li_resync 1 rz_tbl R_Li ({ frames := 0, cells := 0, slots := 0, locals := 0 })) : ∀ b, rz_SB SH CL X bp_Li_resync (rz_RV SH CL X c_Li_resync) (bk_Li_resync b) (bp_Li_resync b) := fun b => match b with
  | 0 => (rz_cons (rz_aload_n G d_Li_resync_0 rfl) (rz_cons (rz_iconst G d_Li_resync_1 (by decide)) (rz_cons (rz_put G rfl in_Li ty_Li tyok_Li nm_Li (by decide) rfl (by decide +kernel) wd_74 d_Li_resync_2) (rz_cons (rz_aload_n G d_Li_resync_5 rfl) (rz_cons (rz_iconst G d_Li_resync_6 (by decide)) (rz_cons (rz_put G rfl in_Li ty_Li tyok_Li nm_Li (by decide) rfl (by decide +kernel) wd_76 d_Li_resync_7) (rz_cons (rz_aload_n G d_Li_resync_10 rfl) (rz_cons (rz_iconst G d_Li_resync_11 (by decide)) (rz_cons (rz_put G rfl in_Li ty_Li tyok_Li nm_Li (by decide) rfl (by decide +kernel) wd_72 d_Li_resync_12) (rz_cons (rz_vret (npc := 0) d_Li_resync_15) rz_nil))))))))))
  | _ + 1 => rz_nil
set_option maxRecDepth 100000 in
set_option maxHeartbeats 4000000 in
theorem bd_Li_resync : ∀ (Y : Nat → rz_K) (P : rz_P), (∀ b ls st μ, rz_ex P Y (bk_Li_resync b) ls st μ → Y b ls st μ) → ∀ As μ, C_Li_resync As μ P → Y 0 (rz_pad 1 (rz_ent As)) [] μ := by
  intro Y P hY As μ hC
  obtain ⟨rfl, hC⟩ := hC
  exact hY 0 _ _ _ hC
theorem m_Li_resync (E : rz_E) : rz_MV SH CL E y_Li_resync 1 (Cond.code y_Li_resync c_Li_resync 1 none :: rz_tbl) ({ frames := 0, cells := 0, slots := 0, locals := 0 }) C_Li_resync := rz_metV (by decide) rfl (fun X _ G => sd_Li_resync X G) bd_Li_resync
theorem cd_Li_resync : rz_Cd rz_tbl y_Li_resync c_Li_resync 1 none (Cond.code y_Li_resync c_Li_resync 1 none :: rz_tbl) 0 ({ frames := 0, cells := 0, slots := 0, locals := 0 }) := ⟨rz_good wd_313, ⟨_, rfl⟩, wd_41, by decide +kernel, rfl, rfl⟩
def f_lreset (μ : rz_M) : rz_M := rz_up (rz_up (rz_up (f_resync μ) 1 8 32) 1 1 0) 1 3 0
def C_Li_reset : rz_C := fun As μ P => As = [.ref 1] ∧ P none (f_lreset μ)
def bk_Li_reset : Nat → List rz_T := fun b => match b with
  | 0 => [tz_aload 0, tz_cv SH 0 3 1 C_Li_resync, tz_aload 0, tz_bipush 32, tz_put SH 3 8, tz_aload 0, tz_iconst 0, tz_put SH 3 1, tz_aload 0, tz_iconst 0, tz_put SH 3 3, tz_vret]
  | _ => []
def bp_Li_reset : Nat → Nat := fun b => match b with
  | 0 => 0
  | _ => 0
set_option maxRecDepth 100000 in
set_option maxHeartbeats 4000000 in
theorem sd_Li_reset (X : rz_X) (G : rz_Cx CL X c_Li_reset 1 rz_tbl R_Li ({ frames := 1, cells := 0, slots := 0, locals := 20 })) : ∀ b, rz_SB SH CL X bp_Li_reset (rz_RV SH CL X c_Li_reset) (bk_Li_reset b) (bp_Li_reset b) := fun b => match b with
  | 0 => (rz_cons (rz_aload_n G d_Li_reset_0 rfl) (rz_cons (rz_cvv G (m_Li_resync X.1) cd_Li_resync wd_310 wd_311 wd_312 rfl rfl (by decide) d_Li_reset_1) (rz_cons (rz_aload_n G d_Li_reset_4 rfl) (rz_cons (rz_bipush G d_Li_reset_5 (by decide)) (rz_cons (rz_put G rfl in_Li ty_Li tyok_Li nm_Li (by decide) rfl (by decide +kernel) wd_78 d_Li_reset_7) (rz_cons (rz_aload_n G d_Li_reset_10 rfl) (rz_cons (rz_iconst G d_Li_reset_11 (by decide)) (rz_cons (rz_put G rfl in_Li ty_Li tyok_Li nm_Li (by decide) rfl (by decide +kernel) wd_65 d_Li_reset_12) (rz_cons (rz_aload_n G d_Li_reset_15 rfl) (rz_cons (rz_iconst G d_Li_reset_16 (by decide)) (rz_cons (rz_put G rfl in_Li ty_Li tyok_Li nm_Li (by decide) rfl (by decide +kernel) wd_69 d_Li_reset_17) (rz_cons (rz_vret (npc := 0) d_Li_reset_20) rz_nil))))))))))))
  | _ + 1 => rz_nil
set_option maxRecDepth 100000 in
set_option maxHeartbeats 4000000 in
theorem bd_Li_reset : ∀ (Y : Nat → rz_K) (P : rz_P), (∀ b ls st μ, rz_ex P Y (bk_Li_reset b) ls st μ → Y b ls st μ) → ∀ As μ, C_Li_reset As μ P → Y 0 (rz_pad 1 (rz_ent As)) [] μ := by
  intro Y P hY As μ hC
  obtain ⟨rfl, hC⟩ := hC
  exact hY 0 _ _ _ (And.intro rfl hC)
theorem m_Li_reset (E : rz_E) : rz_MV SH CL E y_Li_reset 1 (Cond.code y_Li_reset c_Li_reset 1 none :: rz_tbl) ({ frames := 1, cells := 0, slots := 0, locals := 20 }) C_Li_reset := rz_metV (by decide) rfl (fun X _ G => sd_Li_reset X G) bd_Li_reset
theorem cd_Li_reset : rz_Cd rz_tbl y_Li_reset c_Li_reset 1 none (Cond.code y_Li_reset c_Li_reset 1 none :: rz_tbl) 0 ({ frames := 1, cells := 0, slots := 0, locals := 20 }) := ⟨rz_good wd_309, ⟨_, rfl⟩, wd_41, by decide +kernel, rfl, rfl⟩
def C_Li_take : rz_C := fun As μ P => ∃ (x : Int32) (n : Nat), As = [.ref 1, .int x] ∧ μ 1 1 = nI n ∧ n < 36 ∧ P none (rz_up (rz_up μ 1 1 (nI (n + 1))) 2 n x)
def bk_Li_take : Nat → List rz_T := fun b => match b with
  | 0 => [tz_aload 0, tz_get SH 3 1, tz_bipush 36, tz_icmp_ge 1, tz_aload 0, tz_get SH 3 0, tz_aload 0, tz_dup, tz_get SH 3 1, tz_dup_x1, tz_iconst 1, tz_iadd, tz_put SH 3 1, tz_iload 1, tz_iast SH, tz_fall 1]
  | 1 => [tz_vret]
  | _ => []
def bp_Li_take : Nat → Nat := fun b => match b with
  | 0 => 0
  | 1 => 26
  | _ => 0
set_option maxRecDepth 100000 in
set_option maxHeartbeats 4000000 in
theorem sd_Li_take (X : rz_X) (G : rz_Cx CL X c_Li_take 2 rz_tbl R_Li ({ frames := 0, cells := 0, slots := 0, locals := 0 })) : ∀ b, rz_SB SH CL X bp_Li_take (rz_RV SH CL X c_Li_take) (bk_Li_take b) (bp_Li_take b) := fun b => match b with
  | 0 => (rz_cons (rz_aload_n G d_Li_take_0 rfl) (rz_cons (rz_get G rfl in_Li (by decide) wd_65 d_Li_take_1) (rz_cons (rz_bipush G d_Li_take_4 (by decide)) (rz_cons (rz_icmp_ge G d_Li_take_6 (by decide)) (rz_cons (rz_aload_n G d_Li_take_9 rfl) (rz_cons (rz_get G rfl in_Li (by decide) wd_64 d_Li_take_10) (rz_cons (rz_aload_n G d_Li_take_13 rfl) (rz_cons (rz_dup G d_Li_take_14) (rz_cons (rz_get G rfl in_Li (by decide) wd_65 d_Li_take_15) (rz_cons (rz_dup_x1 G d_Li_take_18) (rz_cons (rz_iconst G d_Li_take_19 (by decide)) (rz_cons (rz_iadd G d_Li_take_20) (rz_cons (rz_put G rfl in_Li ty_Li tyok_Li nm_Li (by decide) rfl (by decide +kernel) wd_65 d_Li_take_21) (rz_cons (rz_iload_n G d_Li_take_24 rfl) (rz_cons (rz_iast G d_Li_take_25) (rz_fall rfl))))))))))))))))
  | 1 => (rz_cons (rz_vret (npc := 0) d_Li_take_26) rz_nil)
  | _ + 2 => rz_nil
set_option maxRecDepth 100000 in
set_option maxHeartbeats 4000000 in
theorem bd_Li_take : ∀ (Y : Nat → rz_K) (P : rz_P), (∀ b ls st μ, rz_ex P Y (bk_Li_take b) ls st μ → Y b ls st μ) → ∀ As μ, C_Li_take As μ P → Y 0 (rz_pad 2 (rz_ent As)) [] μ := by
  intro Y P hY As μ hC
  obtain ⟨x, n, rfl, hn, h36, hC⟩ := hC
  refine hY 0 _ _ _ (And.intro (fun (h : (36 : Int32) ≤ μ 1 1) => ?_) (fun _ => And.intro ?_ (hY 1 _ _ _ ?_)))
  · rw [hn] at h
    exact absurd h (nI_ge (a := n) (b := 36) h36 (by omega))
  · rw [hn]; exact vp_in_nI h36 (by omega)
  · rw [nI_succ] at hC
    rw [hn, nI_clamp (by omega)]
    exact hC
theorem m_Li_take (E : rz_E) : rz_MV SH CL E y_Li_take 2 (Cond.code y_Li_take c_Li_take 2 none :: rz_tbl) ({ frames := 0, cells := 0, slots := 0, locals := 0 }) C_Li_take := rz_metV (by decide) rfl (fun X _ G => sd_Li_take X G) bd_Li_take
theorem cd_Li_take : rz_Cd rz_tbl y_Li_take c_Li_take 2 none (Cond.code y_Li_take c_Li_take 2 none :: rz_tbl) 1 ({ frames := 0, cells := 0, slots := 0, locals := 0 }) := ⟨rz_good wd_360, ⟨_, rfl⟩, wd_41, by decide +kernel, rfl, rfl⟩
def C_Li_isTooLong : rz_C := fun As μ P => As = [.ref 1] ∧ P (some (.int (b2 (¬ μ 2 2 ≤ 32)))) μ
def bk_Li_isTooLong : Nat → List rz_T := fun b => match b with
  | 0 => [tz_aload 0, tz_get SH 3 0, tz_iconst 2, tz_iald SH, tz_bipush 32, tz_icmp_le 1, tz_iconst 1, tz_goto 2]
  | 1 => [tz_iconst 0, tz_fall 2]
  | 2 => [tz_zret]
  | _ => []
def bp_Li_isTooLong : Nat → Nat := fun b => match b with
  | 0 => 0
  | 1 => 15
  | 2 => 16
  | _ => 0
set_option maxRecDepth 100000 in
set_option maxHeartbeats 4000000 in
theorem sd_Li_isTooLong (X : rz_X) (G : rz_Cx CL X c_Li_isTooLong 1 rz_tbl R_Li ({ frames := 0, cells := 0, slots := 0, locals := 0 })) : ∀ b, rz_SB SH CL X bp_Li_isTooLong (rz_RI SH CL X c_Li_isTooLong (fun v => narrow .boolean (.int v) = .int v)) (bk_Li_isTooLong b) (bp_Li_isTooLong b) := fun b => match b with
  | 0 => (rz_cons (rz_aload_n G d_Li_isTooLong_0 rfl) (rz_cons (rz_get G rfl in_Li (by decide) wd_64 d_Li_isTooLong_1) (rz_cons (rz_iconst G d_Li_isTooLong_4 (by decide)) (rz_cons (rz_iald G d_Li_isTooLong_5) (rz_cons (rz_bipush G d_Li_isTooLong_6 (by decide)) (rz_cons (rz_icmp_le G d_Li_isTooLong_8 (by decide)) (rz_cons (rz_iconst G d_Li_isTooLong_11 (by decide)) (rz_cons (rz_goto (npc := 0) G d_Li_isTooLong_12 (by decide)) rz_nil))))))))
  | 1 => (rz_cons (rz_iconst G d_Li_isTooLong_15 (by decide)) (rz_fall rfl))
  | 2 => (rz_cons (rz_zret (npc := 0) (by rintro v (rfl | rfl) <;> rfl) d_Li_isTooLong_16) rz_nil)
  | _ + 3 => rz_nil
set_option maxRecDepth 100000 in
set_option maxHeartbeats 4000000 in
theorem bd_Li_isTooLong : ∀ (Y : Nat → rz_K) (P : rz_P), (∀ b ls st μ, rz_ex P Y (bk_Li_isTooLong b) ls st μ → Y b ls st μ) → ∀ As μ, C_Li_isTooLong As μ P → Y 0 (rz_pad 1 (rz_ent As)) [] μ := by
  intro Y P hY As μ hC
  obtain ⟨rfl, hC⟩ := hC
  exact hY 0 _ _ _ (And.intro (vi_c (by decide)) (And.intro (fun h => hY _ _ _ _ (hY _ _ _ _ (pF hC (fun q => q h)))) (fun h => hY _ _ _ _ (pT hC h))))
theorem m_Li_isTooLong (E : rz_E) : rz_MI SH CL E y_Li_isTooLong 1 (Cond.code y_Li_isTooLong c_Li_isTooLong 1 (some .boolean) :: rz_tbl) ({ frames := 0, cells := 0, slots := 0, locals := 0 }) C_Li_isTooLong := rz_metI (by decide) rfl (fun X _ G => sd_Li_isTooLong X G) bd_Li_isTooLong
theorem cd_Li_isTooLong : rz_Cd rz_tbl y_Li_isTooLong c_Li_isTooLong 1 (some .boolean) (Cond.code y_Li_isTooLong c_Li_isTooLong 1 (some .boolean) :: rz_tbl) 0 ({ frames := 0, cells := 0, slots := 0, locals := 0 }) := ⟨rz_good wd_368, ⟨_, rfl⟩, wd_41, by decide +kernel, rfl, rfl⟩
def C_Li_pcb : rz_C := fun As μ P => As = [.ref 1] ∧ P (some (.int (μ 2 1))) μ
def bk_Li_pcb : Nat → List rz_T := fun b => match b with
  | 0 => [tz_aload 0, tz_get SH 3 0, tz_iconst 1, tz_iald SH, tz_iret]
  | _ => []
def bp_Li_pcb : Nat → Nat := fun b => match b with
  | 0 => 0
  | _ => 0
set_option maxRecDepth 100000 in
set_option maxHeartbeats 4000000 in
theorem sd_Li_pcb (X : rz_X) (G : rz_Cx CL X c_Li_pcb 1 rz_tbl R_Li ({ frames := 0, cells := 0, slots := 0, locals := 0 })) : ∀ b, rz_SB SH CL X bp_Li_pcb (rz_RI SH CL X c_Li_pcb (fun v => narrow .int (.int v) = .int v)) (bk_Li_pcb b) (bp_Li_pcb b) := fun b => match b with
  | 0 => (rz_cons (rz_aload_n G d_Li_pcb_0 rfl) (rz_cons (rz_get G rfl in_Li (by decide) wd_64 d_Li_pcb_1) (rz_cons (rz_iconst G d_Li_pcb_4 (by decide)) (rz_cons (rz_iald G d_Li_pcb_5) (rz_cons (rz_iret (npc := 0) (fun _ => rfl) d_Li_pcb_6) rz_nil)))))
  | _ + 1 => rz_nil
set_option maxRecDepth 100000 in
set_option maxHeartbeats 4000000 in
theorem bd_Li_pcb : ∀ (Y : Nat → rz_K) (P : rz_P), (∀ b ls st μ, rz_ex P Y (bk_Li_pcb b) ls st μ → Y b ls st μ) → ∀ As μ, C_Li_pcb As μ P → Y 0 (rz_pad 1 (rz_ent As)) [] μ := by
  intro Y P hY As μ hC
  obtain ⟨rfl, hC⟩ := hC
  exact hY 0 _ _ _ (And.intro (vi_c (by decide)) hC)
theorem m_Li_pcb (E : rz_E) : rz_MI SH CL E y_Li_pcb 1 (Cond.code y_Li_pcb c_Li_pcb 1 (some .int) :: rz_tbl) ({ frames := 0, cells := 0, slots := 0, locals := 0 }) C_Li_pcb := rz_metI (by decide) rfl (fun X _ G => sd_Li_pcb X G) bd_Li_pcb
theorem cd_Li_pcb : rz_Cd rz_tbl y_Li_pcb c_Li_pcb 1 (some .int) (Cond.code y_Li_pcb c_Li_pcb 1 (some .int) :: rz_tbl) 0 ({ frames := 0, cells := 0, slots := 0, locals := 0 }) := ⟨rz_good wd_391, ⟨_, rfl⟩, wd_41, by decide +kernel, rfl, rfl⟩
def C_Li_infLength : rz_C := fun As μ P => As = [.ref 1] ∧ P (some (.int (μ 2 2))) μ
def bk_Li_infLength : Nat → List rz_T := fun b => match b with
  | 0 => [tz_aload 0, tz_get SH 3 0, tz_iconst 2, tz_iald SH, tz_iret]
  | _ => []
def bp_Li_infLength : Nat → Nat := fun b => match b with
  | 0 => 0
  | _ => 0
set_option maxRecDepth 100000 in
set_option maxHeartbeats 4000000 in
theorem sd_Li_infLength (X : rz_X) (G : rz_Cx CL X c_Li_infLength 1 rz_tbl R_Li ({ frames := 0, cells := 0, slots := 0, locals := 0 })) : ∀ b, rz_SB SH CL X bp_Li_infLength (rz_RI SH CL X c_Li_infLength (fun v => narrow .int (.int v) = .int v)) (bk_Li_infLength b) (bp_Li_infLength b) := fun b => match b with
  | 0 => (rz_cons (rz_aload_n G d_Li_infLength_0 rfl) (rz_cons (rz_get G rfl in_Li (by decide) wd_64 d_Li_infLength_1) (rz_cons (rz_iconst G d_Li_infLength_4 (by decide)) (rz_cons (rz_iald G d_Li_infLength_5) (rz_cons (rz_iret (npc := 0) (fun _ => rfl) d_Li_infLength_6) rz_nil)))))
  | _ + 1 => rz_nil
set_option maxRecDepth 100000 in
set_option maxHeartbeats 4000000 in
theorem bd_Li_infLength : ∀ (Y : Nat → rz_K) (P : rz_P), (∀ b ls st μ, rz_ex P Y (bk_Li_infLength b) ls st μ → Y b ls st μ) → ∀ As μ, C_Li_infLength As μ P → Y 0 (rz_pad 1 (rz_ent As)) [] μ := by
  intro Y P hY As μ hC
  obtain ⟨rfl, hC⟩ := hC
  exact hY 0 _ _ _ (And.intro (vi_c (by decide)) hC)
theorem m_Li_infLength (E : rz_E) : rz_MI SH CL E y_Li_infLength 1 (Cond.code y_Li_infLength c_Li_infLength 1 (some .int) :: rz_tbl) ({ frames := 0, cells := 0, slots := 0, locals := 0 }) C_Li_infLength := rz_metI (by decide) rfl (fun X _ G => sd_Li_infLength X G) bd_Li_infLength
theorem cd_Li_infLength : rz_Cd rz_tbl y_Li_infLength c_Li_infLength 1 (some .int) (Cond.code y_Li_infLength c_Li_infLength 1 (some .int) :: rz_tbl) 0 ({ frames := 0, cells := 0, slots := 0, locals := 0 }) := ⟨rz_good wd_372, ⟨_, rfl⟩, wd_41, by decide +kernel, rfl, rfl⟩
def C_Li_inf : rz_C := fun As μ P => ∃ k : Nat, As = [.ref 1, .int (nI k)] ∧ k < 32 ∧ P (some (.int (μ 2 (3 + k)))) μ
def bk_Li_inf : Nat → List rz_T := fun b => match b with
  | 0 => [tz_iload 1, tz_if_lt 1, tz_iload 1, tz_bipush 32, tz_icmp_ge 1, tz_aload 0, tz_get SH 3 0, tz_iconst 3, tz_iload 1, tz_iadd, tz_iald SH, tz_goto 2]
  | 1 => [tz_iconst 0, tz_fall 2]
  | 2 => [tz_iret]
  | _ => []
def bp_Li_inf : Nat → Nat := fun b => match b with
  | 0 => 0
  | 1 => 21
  | 2 => 22
  | _ => 0
set_option maxRecDepth 100000 in
set_option maxHeartbeats 4000000 in
theorem sd_Li_inf (X : rz_X) (G : rz_Cx CL X c_Li_inf 2 rz_tbl R_Li ({ frames := 0, cells := 0, slots := 0, locals := 0 })) : ∀ b, rz_SB SH CL X bp_Li_inf (rz_RI SH CL X c_Li_inf (fun v => narrow .int (.int v) = .int v)) (bk_Li_inf b) (bp_Li_inf b) := fun b => match b with
  | 0 => (rz_cons (rz_iload_n G d_Li_inf_0 rfl) (rz_cons (rz_if_lt G d_Li_inf_1 (by decide)) (rz_cons (rz_iload_n G d_Li_inf_4 rfl) (rz_cons (rz_bipush G d_Li_inf_5 (by decide)) (rz_cons (rz_icmp_ge G d_Li_inf_7 (by decide)) (rz_cons (rz_aload_n G d_Li_inf_10 rfl) (rz_cons (rz_get G rfl in_Li (by decide) wd_64 d_Li_inf_11) (rz_cons (rz_iconst G d_Li_inf_14 (by decide)) (rz_cons (rz_iload_n G d_Li_inf_15 rfl) (rz_cons (rz_iadd G d_Li_inf_16) (rz_cons (rz_iald G d_Li_inf_17) (rz_cons (rz_goto (npc := 0) G d_Li_inf_18 (by decide)) rz_nil))))))))))))
  | 1 => (rz_cons (rz_iconst G d_Li_inf_21 (by decide)) (rz_fall rfl))
  | 2 => (rz_cons (rz_iret (npc := 0) (fun _ => rfl) d_Li_inf_22) rz_nil)
  | _ + 3 => rz_nil
set_option maxRecDepth 100000 in
set_option maxHeartbeats 4000000 in
theorem bd_Li_inf : ∀ (Y : Nat → rz_K) (P : rz_P), (∀ b ls st μ, rz_ex P Y (bk_Li_inf b) ls st μ → Y b ls st μ) → ∀ As μ, C_Li_inf As μ P → Y 0 (rz_pad 2 (rz_ent As)) [] μ := by
  intro Y P hY As μ hC
  obtain ⟨k, rfl, h32, hC⟩ := hC
  have e : (3 : Int32) + nI k = nI (3 + k) := by rw [show (3 : Int32) = nI 3 from rfl, nI_add]
  refine hY 0 _ _ _ (And.intro (fun h => absurd h (nI_pos (by omega))) (fun _ => And.intro (fun h => absurd h (nI_ge (a := k) (b := 32) h32 (by omega))) (fun _ => ?_)))
  show vp_in (3 + nI k) 36 ∧ _
  rw [e]
  refine And.intro (vp_in_nI (by omega) (by omega)) (hY _ _ _ _ ?_)
  rw [nI_clamp (by omega)]
  exact hC
theorem m_Li_inf (E : rz_E) : rz_MI SH CL E y_Li_inf 2 (Cond.code y_Li_inf c_Li_inf 2 (some .int) :: rz_tbl) ({ frames := 0, cells := 0, slots := 0, locals := 0 }) C_Li_inf := rz_metI (by decide) rfl (fun X _ G => sd_Li_inf X G) bd_Li_inf
theorem cd_Li_inf : rz_Cd rz_tbl y_Li_inf c_Li_inf 2 (some .int) (Cond.code y_Li_inf c_Li_inf 2 (some .int) :: rz_tbl) 1 ({ frames := 0, cells := 0, slots := 0, locals := 0 }) := ⟨rz_good wd_401, ⟨_, rfl⟩, wd_41, by decide +kernel, rfl, rfl⟩
def C_Li_isWhole : rz_C := fun As μ P => As = [.ref 1] ∧ P (some (.int (b2 (¬ μ 1 1 < 3 ∧ (¬ μ 2 2 ≤ 32 ∨ μ 1 1 = 3 + μ 2 2 + 1))))) μ
def bk_Li_isWhole : Nat → List rz_T := fun b => match b with
  | 0 => [tz_aload 0, tz_get SH 3 1, tz_iconst 3, tz_icmp_lt 2, tz_aload 0, tz_cv SH 0 3 1 C_Li_isTooLong, tz_if_ne 1, tz_aload 0, tz_get SH 3 1, tz_iconst 3, tz_aload 0, tz_cv SH 0 3 1 C_Li_infLength, tz_iadd, tz_iconst 1, tz_iadd, tz_icmp_ne 2, tz_fall 1]
  | 1 => [tz_iconst 1, tz_goto 3]
  | 2 => [tz_iconst 0, tz_fall 3]
  | 3 => [tz_zret]
  | _ => []
def bp_Li_isWhole : Nat → Nat := fun b => match b with
  | 0 => 0
  | 1 => 30
  | 2 => 34
  | 3 => 35
  | _ => 0
set_option maxRecDepth 100000 in
set_option maxHeartbeats 4000000 in
theorem sd_Li_isWhole (X : rz_X) (G : rz_Cx CL X c_Li_isWhole 1 rz_tbl R_Li ({ frames := 1, cells := 0, slots := 0, locals := 20 })) : ∀ b, rz_SB SH CL X bp_Li_isWhole (rz_RI SH CL X c_Li_isWhole (fun v => narrow .boolean (.int v) = .int v)) (bk_Li_isWhole b) (bp_Li_isWhole b) := fun b => match b with
  | 0 => (rz_cons (rz_aload_n G d_Li_isWhole_0 rfl) (rz_cons (rz_get G rfl in_Li (by decide) wd_65 d_Li_isWhole_1) (rz_cons (rz_iconst G d_Li_isWhole_4 (by decide)) (rz_cons (rz_icmp_lt G d_Li_isWhole_5 (by decide)) (rz_cons (rz_aload_n G d_Li_isWhole_8 rfl) (rz_cons (rz_cvi G (m_Li_isTooLong X.1) cd_Li_isTooLong wd_365 wd_367 wd_1 rfl rfl (by decide) d_Li_isWhole_9) (rz_cons (rz_if_ne G d_Li_isWhole_12 (by decide)) (rz_cons (rz_aload_n G d_Li_isWhole_15 rfl) (rz_cons (rz_get G rfl in_Li (by decide) wd_65 d_Li_isWhole_16) (rz_cons (rz_iconst G d_Li_isWhole_19 (by decide)) (rz_cons (rz_aload_n G d_Li_isWhole_20 rfl) (rz_cons (rz_cvi G (m_Li_infLength X.1) cd_Li_infLength wd_369 wd_370 wd_371 rfl rfl (by decide) d_Li_isWhole_21) (rz_cons (rz_iadd G d_Li_isWhole_24) (rz_cons (rz_iconst G d_Li_isWhole_25 (by decide)) (rz_cons (rz_iadd G d_Li_isWhole_26) (rz_cons (rz_icmp_ne G d_Li_isWhole_27 (by decide)) (rz_fall rfl)))))))))))))))))
  | 1 => (rz_cons (rz_iconst G d_Li_isWhole_30 (by decide)) (rz_cons (rz_goto (npc := 0) G d_Li_isWhole_31 (by decide)) rz_nil))
  | 2 => (rz_cons (rz_iconst G d_Li_isWhole_34 (by decide)) (rz_fall rfl))
  | 3 => (rz_cons (rz_zret (npc := 0) (by rintro v (rfl | rfl) <;> rfl) d_Li_isWhole_35) rz_nil)
  | _ + 4 => rz_nil
set_option maxRecDepth 100000 in
set_option maxHeartbeats 4000000 in
theorem bd_Li_isWhole : ∀ (Y : Nat → rz_K) (P : rz_P), (∀ b ls st μ, rz_ex P Y (bk_Li_isWhole b) ls st μ → Y b ls st μ) → ∀ As μ, C_Li_isWhole As μ P → Y 0 (rz_pad 1 (rz_ent As)) [] μ := by
  intro Y P hY As μ hC
  obtain ⟨rfl, hC⟩ := hC
  refine hY 0 _ _ _ (And.intro (fun h => ?_) (fun h => And.intro rfl (And.intro (fun h2 => ?_) (fun h2 => And.intro rfl (And.intro (fun h3 => ?_) (fun h3 => ?_))))))
  · exact hY _ _ _ _ (hY _ _ _ _ (pF hC (fun q => q.1 h)))
  · exact hY _ _ _ _ (hY _ _ _ _ (pT hC ⟨h, Or.inl (b2_ne h2)⟩))
  · exact hY _ _ _ _ (hY _ _ _ _ (pF hC (fun q => q.2.elim (b2_eq h2) h3)))
  · exact hY _ _ _ _ (hY _ _ _ _ (pT hC ⟨h, Or.inr h3⟩))
theorem m_Li_isWhole (E : rz_E) : rz_MI SH CL E y_Li_isWhole 1 (Cond.code y_Li_isWhole c_Li_isWhole 1 (some .boolean) :: rz_tbl) ({ frames := 1, cells := 0, slots := 0, locals := 20 }) C_Li_isWhole := rz_metI (by decide) rfl (fun X _ G => sd_Li_isWhole X G) bd_Li_isWhole
theorem cd_Li_isWhole : rz_Cd rz_tbl y_Li_isWhole c_Li_isWhole 1 (some .boolean) (Cond.code y_Li_isWhole c_Li_isWhole 1 (some .boolean) :: rz_tbl) 0 ({ frames := 1, cells := 0, slots := 0, locals := 20 }) := ⟨rz_good wd_364, ⟨_, rfl⟩, wd_41, by decide +kernel, rfl, rfl⟩
def C_Li_sum : rz_C := fun As μ P => ∃ n : Nat, n ≤ 36 ∧ ((As = [.ref 2, .int (nI n)] ∧ P (some (.int (xs (μ 2) n))) μ) ∨ (As = [.ref 3, .int (nI n)] ∧ P (some (.int (xs (μ 3) n))) μ))
def bk_Li_sum : Nat → List rz_T := fun b => match b with
  | 0 => [tz_iconst 0, tz_istore 2, tz_iconst 0, tz_istore 3, tz_fall 1]
  | 1 => [tz_iload 3, tz_iload 1, tz_icmp_ge 2, tz_iload 3, tz_aload 0, tz_alen SH, tz_icmp_ge 2, tz_iload 2, tz_aload 0, tz_iload 3, tz_iald SH, tz_ixor, tz_istore 2, tz_iinc 3 1, tz_goto 1]
  | 2 => [tz_iload 2, tz_iret]
  | _ => []
def bp_Li_sum : Nat → Nat := fun b => match b with
  | 0 => 0
  | 1 => 4
  | 2 => 27
  | _ => 0
set_option maxRecDepth 100000 in
set_option maxHeartbeats 4000000 in
theorem sd_Li_sum (X : rz_X) (G : rz_Cx CL X c_Li_sum 4 rz_tbl R_Li ({ frames := 0, cells := 0, slots := 0, locals := 0 })) : ∀ b, rz_SB SH CL X bp_Li_sum (rz_RI SH CL X c_Li_sum (fun v => narrow .int (.int v) = .int v)) (bk_Li_sum b) (bp_Li_sum b) := fun b => match b with
  | 0 => (rz_cons (rz_iconst G d_Li_sum_0 (by decide)) (rz_cons (rz_istore_n G d_Li_sum_1 rfl (by decide)) (rz_cons (rz_iconst G d_Li_sum_2 (by decide)) (rz_cons (rz_istore_n G d_Li_sum_3 rfl (by decide)) (rz_fall rfl)))))
  | 1 => (rz_cons (rz_iload_n G d_Li_sum_4 rfl) (rz_cons (rz_iload_n G d_Li_sum_5 rfl) (rz_cons (rz_icmp_ge G d_Li_sum_6 (by decide)) (rz_cons (rz_iload_n G d_Li_sum_9 rfl) (rz_cons (rz_aload_n G d_Li_sum_10 rfl) (rz_cons (rz_alen G d_Li_sum_11) (rz_cons (rz_icmp_ge G d_Li_sum_12 (by decide)) (rz_cons (rz_iload_n G d_Li_sum_15 rfl) (rz_cons (rz_aload_n G d_Li_sum_16 rfl) (rz_cons (rz_iload_n G d_Li_sum_17 rfl) (rz_cons (rz_iald G d_Li_sum_18) (rz_cons (rz_ixor G d_Li_sum_19) (rz_cons (rz_istore_n G d_Li_sum_20 rfl (by decide)) (rz_cons (rz_iinc G d_Li_sum_21 (by decide) (by decide)) (rz_cons (rz_goto (npc := 0) G d_Li_sum_24 (by decide)) rz_nil)))))))))))))))
  | 2 => (rz_cons (rz_iload_n G d_Li_sum_27 rfl) (rz_cons (rz_iret (npc := 0) (fun _ => rfl) d_Li_sum_28) rz_nil))
  | _ + 3 => rz_nil
set_option maxRecDepth 100000 in
set_option maxHeartbeats 4000000 in
theorem bd_Li_sum : ∀ (Y : Nat → rz_K) (P : rz_P), (∀ b ls st μ, rz_ex P Y (bk_Li_sum b) ls st μ → Y b ls st μ) → ∀ As μ, C_Li_sum As μ P → Y 0 (rz_pad 4 (rz_ent As)) [] μ := by
  intro Y P hY As μ hC
  obtain ⟨n, h36, hC⟩ := hC
  rcases hC with ⟨rfl, hC⟩ | ⟨rfl, hC⟩
  · have loop : ∀ d i, i + d = n → Y 1 [some (.ref 2), some (.int (nI n)), some (.int (xs (μ 2) i)), some (.int (nI i))] [] μ := by
      intro d
      induction d with
      | zero =>
        intro i hi
        have : i = n := by omega
        subst this
        exact hY 1 _ _ _ (And.intro (fun _ => hY 2 _ _ _ hC) (fun h => absurd (Int32.le_refl _) h))
      | succ d ih =>
        intro i hi
        refine hY 1 _ _ _ (And.intro (fun h => absurd h (nI_ge (by omega) (by omega))) (fun _ => And.intro (fun h => absurd h (nI_ge (a := i) (b := 36) (by omega) (by omega))) (fun _ => And.intro (vp_in_nI (by omega) (by omega)) ?_)))
        have := ih (i + 1) (by omega)
        rw [nI_succ] at this
        rw [nI_clamp (by omega)]
        exact this
    exact hY 0 _ _ _ (loop n 0 (by omega))
  · have loop : ∀ d i, i + d = n → Y 1 [some (.ref 3), some (.int (nI n)), some (.int (xs (μ 3) i)), some (.int (nI i))] [] μ := by
      intro d
      induction d with
      | zero =>
        intro i hi
        have : i = n := by omega
        subst this
        exact hY 1 _ _ _ (And.intro (fun _ => hY 2 _ _ _ hC) (fun h => absurd (Int32.le_refl _) h))
      | succ d ih =>
        intro i hi
        refine hY 1 _ _ _ (And.intro (fun h => absurd h (nI_ge (by omega) (by omega))) (fun _ => And.intro (fun h => absurd h (nI_ge (a := i) (b := 36) (by omega) (by omega))) (fun _ => And.intro (vp_in_nI (by omega) (by omega)) ?_)))
        have := ih (i + 1) (by omega)
        rw [nI_succ] at this
        rw [nI_clamp (by omega)]
        exact this
    exact hY 0 _ _ _ (loop n 0 (by omega))
theorem m_Li_sum (E : rz_E) : rz_MI SH CL E y_Li_sum 4 (Cond.code y_Li_sum c_Li_sum 4 (some .int) :: rz_tbl) ({ frames := 0, cells := 0, slots := 0, locals := 0 }) C_Li_sum := rz_metI (by decide) rfl (fun X _ G => sd_Li_sum X G) bd_Li_sum
theorem cd_Li_sum : rz_Cd rz_tbl y_Li_sum c_Li_sum 4 (some .int) (Cond.code y_Li_sum c_Li_sum 4 (some .int) :: rz_tbl) 2 ({ frames := 0, cells := 0, slots := 0, locals := 0 }) := ⟨rz_good wd_387, ⟨_, rfl⟩, wd_41, by decide +kernel, rfl, rfl⟩
def C_Li_sumOfArrived : rz_C := fun As μ P => ∃ n : Nat, As = [.ref 1] ∧ μ 1 1 = nI n ∧ n ≤ 36 ∧ P (some (.int (xs (μ 2) n))) μ
def bk_Li_sumOfArrived : Nat → List rz_T := fun b => match b with
  | 0 => [tz_aload 0, tz_get SH 3 0, tz_aload 0, tz_get SH 3 1, tz_cs 2 4 C_Li_sum, tz_iret]
  | _ => []
def bp_Li_sumOfArrived : Nat → Nat := fun b => match b with
  | 0 => 0
  | _ => 0
set_option maxRecDepth 100000 in
set_option maxHeartbeats 4000000 in
theorem sd_Li_sumOfArrived (X : rz_X) (G : rz_Cx CL X c_Li_sumOfArrived 1 rz_tbl R_Li ({ frames := 1, cells := 0, slots := 0, locals := 23 })) : ∀ b, rz_SB SH CL X bp_Li_sumOfArrived (rz_RI SH CL X c_Li_sumOfArrived (fun v => narrow .int (.int v) = .int v)) (bk_Li_sumOfArrived b) (bp_Li_sumOfArrived b) := fun b => match b with
  | 0 => (rz_cons (rz_aload_n G d_Li_sumOfArrived_0 rfl) (rz_cons (rz_get G rfl in_Li (by decide) wd_64 d_Li_sumOfArrived_1) (rz_cons (rz_aload_n G d_Li_sumOfArrived_4 rfl) (rz_cons (rz_get G rfl in_Li (by decide) wd_65 d_Li_sumOfArrived_5) (rz_cons (rz_csi G (m_Li_sum X.1) cd_Li_sum wd_385 wd_386 (by decide) d_Li_sumOfArrived_8) (rz_cons (rz_iret (npc := 0) (fun _ => rfl) d_Li_sumOfArrived_11) rz_nil))))))
  | _ + 1 => rz_nil
set_option maxRecDepth 100000 in
set_option maxHeartbeats 4000000 in
theorem bd_Li_sumOfArrived : ∀ (Y : Nat → rz_K) (P : rz_P), (∀ b ls st μ, rz_ex P Y (bk_Li_sumOfArrived b) ls st μ → Y b ls st μ) → ∀ As μ, C_Li_sumOfArrived As μ P → Y 0 (rz_pad 1 (rz_ent As)) [] μ := by
  intro Y P hY As μ hC
  obtain ⟨n, rfl, hn, h36, hC⟩ := hC
  refine hY 0 _ _ _ ⟨n, h36, Or.inl ⟨?_, hC⟩⟩
  show [Value.ref 2, Value.int (μ 1 1)] = _
  rw [hn]
theorem m_Li_sumOfArrived (E : rz_E) : rz_MI SH CL E y_Li_sumOfArrived 1 (Cond.code y_Li_sumOfArrived c_Li_sumOfArrived 1 (some .int) :: rz_tbl) ({ frames := 1, cells := 0, slots := 0, locals := 23 }) C_Li_sumOfArrived := rz_metI (by decide) rfl (fun X _ G => sd_Li_sumOfArrived X G) bd_Li_sumOfArrived
theorem cd_Li_sumOfArrived : rz_Cd rz_tbl y_Li_sumOfArrived c_Li_sumOfArrived 1 (some .int) (Cond.code y_Li_sumOfArrived c_Li_sumOfArrived 1 (some .int) :: rz_tbl) 0 ({ frames := 1, cells := 0, slots := 0, locals := 23 }) := ⟨rz_good wd_384, ⟨_, rfl⟩, wd_41, by decide +kernel, rfl, rfl⟩
def v_wrong (n : Nat) (μ : rz_M) : Int32 := if ¬ μ 2 2 ≤ 32 then 2 else if ¬ xs (μ 2) n = 0 then 1 else if ¬ μ 2 0 = 0 then 2 else 0
def C_Li_wrong : rz_C := fun As μ P => ∃ n : Nat, As = [.ref 1] ∧ μ 1 1 = nI n ∧ n ≤ 36 ∧ P (some (.int (v_wrong n μ))) μ
def bk_Li_wrong : Nat → List rz_T := fun b => match b with
  | 0 => [tz_aload 0, tz_cv SH 0 3 1 C_Li_isTooLong, tz_if_eq 1, tz_iconst 2, tz_iret]
  | 1 => [tz_aload 0, tz_cv SH 0 3 1 C_Li_sumOfArrived, tz_if_eq 2, tz_iconst 1, tz_iret]
  | 2 => [tz_aload 0, tz_get SH 3 0, tz_iconst 0, tz_iald SH, tz_if_ne 3, tz_iconst 0, tz_goto 4]
  | 3 => [tz_iconst 2, tz_fall 4]
  | 4 => [tz_iret]
  | _ => []
def bp_Li_wrong : Nat → Nat := fun b => match b with
  | 0 => 0
  | 1 => 9
  | 2 => 18
  | 3 => 31
  | 4 => 32
  | _ => 0
set_option maxRecDepth 100000 in
set_option maxHeartbeats 4000000 in
theorem sd_Li_wrong (X : rz_X) (G : rz_Cx CL X c_Li_wrong 1 rz_tbl R_Li ({ frames := 2, cells := 0, slots := 0, locals := 43 })) : ∀ b, rz_SB SH CL X bp_Li_wrong (rz_RI SH CL X c_Li_wrong (fun v => narrow .int (.int v) = .int v)) (bk_Li_wrong b) (bp_Li_wrong b) := fun b => match b with
  | 0 => (rz_cons (rz_aload_n G d_Li_wrong_0 rfl) (rz_cons (rz_cvi G (m_Li_isTooLong X.1) cd_Li_isTooLong wd_365 wd_367 wd_1 rfl rfl (by decide) d_Li_wrong_1) (rz_cons (rz_if_eq G d_Li_wrong_4 (by decide)) (rz_cons (rz_iconst G d_Li_wrong_7 (by decide)) (rz_cons (rz_iret (npc := 0) (fun _ => rfl) d_Li_wrong_8) rz_nil)))))
  | 1 => (rz_cons (rz_aload_n G d_Li_wrong_9 rfl) (rz_cons (rz_cvi G (m_Li_sumOfArrived X.1) cd_Li_sumOfArrived wd_381 wd_382 wd_383 rfl rfl (by decide) d_Li_wrong_10) (rz_cons (rz_if_eq G d_Li_wrong_13 (by decide)) (rz_cons (rz_iconst G d_Li_wrong_16 (by decide)) (rz_cons (rz_iret (npc := 0) (fun _ => rfl) d_Li_wrong_17) rz_nil)))))
  | 2 => (rz_cons (rz_aload_n G d_Li_wrong_18 rfl) (rz_cons (rz_get G rfl in_Li (by decide) wd_64 d_Li_wrong_19) (rz_cons (rz_iconst G d_Li_wrong_22 (by decide)) (rz_cons (rz_iald G d_Li_wrong_23) (rz_cons (rz_if_ne G d_Li_wrong_24 (by decide)) (rz_cons (rz_iconst G d_Li_wrong_27 (by decide)) (rz_cons (rz_goto (npc := 0) G d_Li_wrong_28 (by decide)) rz_nil)))))))
  | 3 => (rz_cons (rz_iconst G d_Li_wrong_31 (by decide)) (rz_fall rfl))
  | 4 => (rz_cons (rz_iret (npc := 0) (fun _ => rfl) d_Li_wrong_32) rz_nil)
  | _ + 5 => rz_nil
set_option maxRecDepth 100000 in
set_option maxHeartbeats 4000000 in
theorem bd_Li_wrong : ∀ (Y : Nat → rz_K) (P : rz_P), (∀ b ls st μ, rz_ex P Y (bk_Li_wrong b) ls st μ → Y b ls st μ) → ∀ As μ, C_Li_wrong As μ P → Y 0 (rz_pad 1 (rz_ent As)) [] μ := by
  intro Y P hY As μ hC
  obtain ⟨n, rfl, hn, h36, hC⟩ := hC
  refine hY 0 _ _ _ (And.intro rfl (And.intro (fun h => ?_) (fun h => ?_)))
  · have hC := rzF (fun z => P (some (.int z)) μ) (b2_eq h) hC
    refine hY 1 _ _ _ ⟨n, rfl, hn, h36, And.intro (fun h2 => ?_) (fun h2 => ?_)⟩
    · have hC := rzF (fun z => P (some (.int z)) μ) (fun q => q h2) hC
      refine hY 2 _ _ _ (And.intro (vi_c (by decide)) (And.intro (fun h3 => ?_) (fun h3 => ?_)))
      · exact hY _ _ _ _ (hY _ _ _ _ (rzT (fun z => P (some (.int z)) μ) h3 hC))
      · exact hY _ _ _ _ (rzF (fun z => P (some (.int z)) μ) (fun q => q h3) hC)
    · exact rzT (fun z => P (some (.int z)) μ) h2 hC
  · exact rzT (fun z => P (some (.int z)) μ) (b2_ne h) hC
theorem m_Li_wrong (E : rz_E) : rz_MI SH CL E y_Li_wrong 1 (Cond.code y_Li_wrong c_Li_wrong 1 (some .int) :: rz_tbl) ({ frames := 2, cells := 0, slots := 0, locals := 43 }) C_Li_wrong := rz_metI (by decide) rfl (fun X _ G => sd_Li_wrong X G) bd_Li_wrong
theorem cd_Li_wrong : rz_Cd rz_tbl y_Li_wrong c_Li_wrong 1 (some .int) (Cond.code y_Li_wrong c_Li_wrong 1 (some .int) :: rz_tbl) 0 ({ frames := 2, cells := 0, slots := 0, locals := 43 }) := ⟨rz_good wd_380, ⟨_, rfl⟩, wd_41, by decide +kernel, rfl, rfl⟩
def f_begin (x : Int32) (μ : rz_M) : rz_M := rz_up (rz_up (rz_up (rz_up μ 3 0 0) 3 1 x) 3 2 0) 1 3 3
def C_Li_begin : rz_C := fun As μ P => ∃ x : Int32, As = [.ref 1, .int x] ∧ P none (f_begin x μ)
def bk_Li_begin : Nat → List rz_T := fun b => match b with
  | 0 => [tz_aload 0, tz_get SH 3 2, tz_iconst 0, tz_iconst 0, tz_iast SH, tz_aload 0, tz_get SH 3 2, tz_iconst 1, tz_iload 1, tz_iast SH, tz_aload 0, tz_get SH 3 2, tz_iconst 2, tz_iconst 0, tz_iast SH, tz_aload 0, tz_iconst 3, tz_put SH 3 3, tz_vret]
  | _ => []
def bp_Li_begin : Nat → Nat := fun b => match b with
  | 0 => 0
  | _ => 0
set_option maxRecDepth 100000 in
set_option maxHeartbeats 4000000 in
theorem sd_Li_begin (X : rz_X) (G : rz_Cx CL X c_Li_begin 2 rz_tbl R_Li ({ frames := 0, cells := 0, slots := 0, locals := 0 })) : ∀ b, rz_SB SH CL X bp_Li_begin (rz_RV SH CL X c_Li_begin) (bk_Li_begin b) (bp_Li_begin b) := fun b => match b with
  | 0 => (rz_cons (rz_aload_n G d_Li_begin_0 rfl) (rz_cons (rz_get G rfl in_Li (by decide) wd_67 d_Li_begin_1) (rz_cons (rz_iconst G d_Li_begin_4 (by decide)) (rz_cons (rz_iconst G d_Li_begin_5 (by decide)) (rz_cons (rz_iast G d_Li_begin_6) (rz_cons (rz_aload_n G d_Li_begin_7 rfl) (rz_cons (rz_get G rfl in_Li (by decide) wd_67 d_Li_begin_8) (rz_cons (rz_iconst G d_Li_begin_11 (by decide)) (rz_cons (rz_iload_n G d_Li_begin_12 rfl) (rz_cons (rz_iast G d_Li_begin_13) (rz_cons (rz_aload_n G d_Li_begin_14 rfl) (rz_cons (rz_get G rfl in_Li (by decide) wd_67 d_Li_begin_15) (rz_cons (rz_iconst G d_Li_begin_18 (by decide)) (rz_cons (rz_iconst G d_Li_begin_19 (by decide)) (rz_cons (rz_iast G d_Li_begin_20) (rz_cons (rz_aload_n G d_Li_begin_21 rfl) (rz_cons (rz_iconst G d_Li_begin_22 (by decide)) (rz_cons (rz_put G rfl in_Li ty_Li tyok_Li nm_Li (by decide) rfl (by decide +kernel) wd_69 d_Li_begin_23) (rz_cons (rz_vret (npc := 0) d_Li_begin_26) rz_nil)))))))))))))))))))
  | _ + 1 => rz_nil
set_option maxRecDepth 100000 in
set_option maxHeartbeats 4000000 in
theorem bd_Li_begin : ∀ (Y : Nat → rz_K) (P : rz_P), (∀ b ls st μ, rz_ex P Y (bk_Li_begin b) ls st μ → Y b ls st μ) → ∀ As μ, C_Li_begin As μ P → Y 0 (rz_pad 2 (rz_ent As)) [] μ := by
  intro Y P hY As μ hC
  obtain ⟨x, rfl, hC⟩ := hC
  exact hY 0 _ _ _ (And.intro (vi_c (by decide)) (And.intro (vi_c (by decide)) (And.intro (vi_c (by decide)) hC)))
theorem m_Li_begin (E : rz_E) : rz_MV SH CL E y_Li_begin 2 (Cond.code y_Li_begin c_Li_begin 2 none :: rz_tbl) ({ frames := 0, cells := 0, slots := 0, locals := 0 }) C_Li_begin := rz_metV (by decide) rfl (fun X _ G => sd_Li_begin X G) bd_Li_begin
theorem cd_Li_begin : rz_Cd rz_tbl y_Li_begin c_Li_begin 2 none (Cond.code y_Li_begin c_Li_begin 2 none :: rz_tbl) 1 ({ frames := 0, cells := 0, slots := 0, locals := 0 }) := ⟨rz_good wd_413, ⟨_, rfl⟩, wd_41, by decide +kernel, rfl, rfl⟩
def f_append (x : Int32) (n : Nat) (μ : rz_M) : rz_M := rz_up (rz_up (rz_up μ 1 3 (nI (n + 1))) 3 n x) 3 2 (μ 3 2 + 1)
def C_Li_append : rz_C := fun As μ P => ∃ (x : Int32) (n : Nat), As = [.ref 1, .int x] ∧ μ 1 3 = nI n ∧ 3 ≤ n ∧ n < 35 ∧ P none (f_append x n μ)
def bk_Li_append : Nat → List rz_T := fun b => match b with
  | 0 => [tz_aload 0, tz_get SH 3 3, tz_bipush 35, tz_icmp_ge 1, tz_aload 0, tz_get SH 3 2, tz_aload 0, tz_dup, tz_get SH 3 3, tz_dup_x1, tz_iconst 1, tz_iadd, tz_put SH 3 3, tz_iload 1, tz_iast SH, tz_aload 0, tz_get SH 3 2, tz_iconst 2, tz_dup2, tz_iald SH, tz_iconst 1, tz_iadd, tz_iast SH, tz_fall 1]
  | 1 => [tz_vret]
  | _ => []
def bp_Li_append : Nat → Nat := fun b => match b with
  | 0 => 0
  | 1 => 36
  | _ => 0
set_option maxRecDepth 100000 in
set_option maxHeartbeats 4000000 in
theorem sd_Li_append (X : rz_X) (G : rz_Cx CL X c_Li_append 2 rz_tbl R_Li ({ frames := 0, cells := 0, slots := 0, locals := 0 })) : ∀ b, rz_SB SH CL X bp_Li_append (rz_RV SH CL X c_Li_append) (bk_Li_append b) (bp_Li_append b) := fun b => match b with
  | 0 => (rz_cons (rz_aload_n G d_Li_append_0 rfl) (rz_cons (rz_get G rfl in_Li (by decide) wd_69 d_Li_append_1) (rz_cons (rz_bipush G d_Li_append_4 (by decide)) (rz_cons (rz_icmp_ge G d_Li_append_6 (by decide)) (rz_cons (rz_aload_n G d_Li_append_9 rfl) (rz_cons (rz_get G rfl in_Li (by decide) wd_67 d_Li_append_10) (rz_cons (rz_aload_n G d_Li_append_13 rfl) (rz_cons (rz_dup G d_Li_append_14) (rz_cons (rz_get G rfl in_Li (by decide) wd_69 d_Li_append_15) (rz_cons (rz_dup_x1 G d_Li_append_18) (rz_cons (rz_iconst G d_Li_append_19 (by decide)) (rz_cons (rz_iadd G d_Li_append_20) (rz_cons (rz_put G rfl in_Li ty_Li tyok_Li nm_Li (by decide) rfl (by decide +kernel) wd_69 d_Li_append_21) (rz_cons (rz_iload_n G d_Li_append_24 rfl) (rz_cons (rz_iast G d_Li_append_25) (rz_cons (rz_aload_n G d_Li_append_26 rfl) (rz_cons (rz_get G rfl in_Li (by decide) wd_67 d_Li_append_27) (rz_cons (rz_iconst G d_Li_append_30 (by decide)) (rz_cons (rz_dup2 G d_Li_append_31) (rz_cons (rz_iald G d_Li_append_32) (rz_cons (rz_iconst G d_Li_append_33 (by decide)) (rz_cons (rz_iadd G d_Li_append_34) (rz_cons (rz_iast G d_Li_append_35) (rz_fall rfl))))))))))))))))))))))))
  | 1 => (rz_cons (rz_vret (npc := 0) d_Li_append_36) rz_nil)
  | _ + 2 => rz_nil
set_option maxRecDepth 100000 in
set_option maxHeartbeats 4000000 in
theorem bd_Li_append : ∀ (Y : Nat → rz_K) (P : rz_P), (∀ b ls st μ, rz_ex P Y (bk_Li_append b) ls st μ → Y b ls st μ) → ∀ As μ, C_Li_append As μ P → Y 0 (rz_pad 2 (rz_ent As)) [] μ := by
  intro Y P hY As μ hC
  obtain ⟨x, n, rfl, hn, h3, h35, hC⟩ := hC
  have c1 : (μ 1 3).toNatClampNeg = n := by rw [hn]; exact nI_clamp (by omega)
  refine hY 0 _ _ _ (And.intro (fun (h : (35 : Int32) ≤ μ 1 3) => ?_) (fun _ => And.intro ?_ (And.intro (vi_c (by decide)) (And.intro (vi_c (by decide)) (hY 1 _ _ _ ?_)))))
  · rw [hn] at h
    exact absurd h (nI_ge (a := n) (b := 35) h35 (by omega))
  · rw [hn]; exact vp_in_nI (by omega) (by omega)
  · unfold f_append at hC
    rw [nI_succ, ← hn] at hC
    rw [c1]
    have e : rz_up (rz_up μ 1 3 (μ 1 3 + 1)) 3 n x 3 2 = μ 3 2 := by rw [rz_up_j (by omega)]; rfl
    show P none (rz_up (rz_up (rz_up μ 1 3 (μ 1 3 + 1)) 3 n x) 3 2 (rz_up (rz_up μ 1 3 (μ 1 3 + 1)) 3 n x 3 2 + 1))
    rw [e]
    exact hC
theorem m_Li_append (E : rz_E) : rz_MV SH CL E y_Li_append 2 (Cond.code y_Li_append c_Li_append 2 none :: rz_tbl) ({ frames := 0, cells := 0, slots := 0, locals := 0 }) C_Li_append := rz_metV (by decide) rfl (fun X _ G => sd_Li_append X G) bd_Li_append
theorem cd_Li_append : rz_Cd rz_tbl y_Li_append c_Li_append 2 none (Cond.code y_Li_append c_Li_append 2 none :: rz_tbl) 1 ({ frames := 0, cells := 0, slots := 0, locals := 0 }) := ⟨rz_good wd_554, ⟨_, rfl⟩, wd_41, by decide +kernel, rfl, rfl⟩
def f_finish (n : Nat) (μ : rz_M) : rz_M := rz_up (rz_up μ 3 n (xs (μ 3) n)) 1 3 (nI (n + 1))
def C_Li_finish : rz_C := fun As μ P => ∃ n : Nat, As = [.ref 1] ∧ μ 1 3 = nI n ∧ n < 36 ∧ P none (f_finish n μ)
def bk_Li_finish : Nat → List rz_T := fun b => match b with
  | 0 => [tz_aload 0, tz_get SH 3 2, tz_aload 0, tz_get SH 3 3, tz_aload 0, tz_get SH 3 2, tz_aload 0, tz_get SH 3 3, tz_cs 2 4 C_Li_sum, tz_iast SH, tz_aload 0, tz_dup, tz_get SH 3 3, tz_iconst 1, tz_iadd, tz_put SH 3 3, tz_vret]
  | _ => []
def bp_Li_finish : Nat → Nat := fun b => match b with
  | 0 => 0
  | _ => 0
set_option maxRecDepth 100000 in
set_option maxHeartbeats 4000000 in
theorem sd_Li_finish (X : rz_X) (G : rz_Cx CL X c_Li_finish 1 rz_tbl R_Li ({ frames := 1, cells := 0, slots := 0, locals := 23 })) : ∀ b, rz_SB SH CL X bp_Li_finish (rz_RV SH CL X c_Li_finish) (bk_Li_finish b) (bp_Li_finish b) := fun b => match b with
  | 0 => (rz_cons (rz_aload_n G d_Li_finish_0 rfl) (rz_cons (rz_get G rfl in_Li (by decide) wd_67 d_Li_finish_1) (rz_cons (rz_aload_n G d_Li_finish_4 rfl) (rz_cons (rz_get G rfl in_Li (by decide) wd_69 d_Li_finish_5) (rz_cons (rz_aload_n G d_Li_finish_8 rfl) (rz_cons (rz_get G rfl in_Li (by decide) wd_67 d_Li_finish_9) (rz_cons (rz_aload_n G d_Li_finish_12 rfl) (rz_cons (rz_get G rfl in_Li (by decide) wd_69 d_Li_finish_13) (rz_cons (rz_csi G (m_Li_sum X.1) cd_Li_sum wd_385 wd_386 (by decide) d_Li_finish_16) (rz_cons (rz_iast G d_Li_finish_19) (rz_cons (rz_aload_n G d_Li_finish_20 rfl) (rz_cons (rz_dup G d_Li_finish_21) (rz_cons (rz_get G rfl in_Li (by decide) wd_69 d_Li_finish_22) (rz_cons (rz_iconst G d_Li_finish_25 (by decide)) (rz_cons (rz_iadd G d_Li_finish_26) (rz_cons (rz_put G rfl in_Li ty_Li tyok_Li nm_Li (by decide) rfl (by decide +kernel) wd_69 d_Li_finish_27) (rz_cons (rz_vret (npc := 0) d_Li_finish_30) rz_nil)))))))))))))))))
  | _ + 1 => rz_nil
set_option maxRecDepth 100000 in
set_option maxHeartbeats 4000000 in
theorem bd_Li_finish : ∀ (Y : Nat → rz_K) (P : rz_P), (∀ b ls st μ, rz_ex P Y (bk_Li_finish b) ls st μ → Y b ls st μ) → ∀ As μ, C_Li_finish As μ P → Y 0 (rz_pad 1 (rz_ent As)) [] μ := by
  intro Y P hY As μ hC
  obtain ⟨n, rfl, hn, h36, hC⟩ := hC
  have c1 : (μ 1 3).toNatClampNeg = n := by rw [hn]; exact nI_clamp (by omega)
  refine hY 0 _ _ _ ⟨n, by omega, Or.inr ⟨?_, And.intro ?_ ?_⟩⟩
  · show [Value.ref 3, Value.int (μ 1 3)] = _
    rw [hn]
  · rw [hn]; exact vp_in_nI (by omega) (by omega)
  · unfold f_finish at hC
    rw [nI_succ, ← hn] at hC
    rw [c1]
    exact hC
theorem m_Li_finish (E : rz_E) : rz_MV SH CL E y_Li_finish 1 (Cond.code y_Li_finish c_Li_finish 1 none :: rz_tbl) ({ frames := 1, cells := 0, slots := 0, locals := 23 }) C_Li_finish := rz_metV (by decide) rfl (fun X _ G => sd_Li_finish X G) bd_Li_finish
theorem cd_Li_finish : rz_Cd rz_tbl y_Li_finish c_Li_finish 1 none (Cond.code y_Li_finish c_Li_finish 1 none :: rz_tbl) 0 ({ frames := 1, cells := 0, slots := 0, locals := 23 }) := ⟨rz_good wd_417, ⟨_, rfl⟩, wd_41, by decide +kernel, rfl, rfl⟩
def f_greet (t : Int32) (μ : rz_M) : rz_M := rz_up (rz_up (rz_up (rz_up (rz_up μ 3 0 59) 3 1 1) 3 2 t) 3 3 32) 1 3 4
def C_Li_sendGreeting : rz_C := fun As μ P => ∃ t : Int32, As = [.ref 1, .int t] ∧ P none (f_greet t μ)
def bk_Li_sendGreeting : Nat → List rz_T := fun b => match b with
  | 0 => [tz_aload 0, tz_get SH 3 2, tz_iconst 0, tz_bipush 59, tz_iast SH, tz_aload 0, tz_get SH 3 2, tz_iconst 1, tz_iconst 1, tz_iast SH, tz_aload 0, tz_get SH 3 2, tz_iconst 2, tz_iload 1, tz_iast SH, tz_aload 0, tz_get SH 3 2, tz_iconst 3, tz_bipush 32, tz_iast SH, tz_aload 0, tz_iconst 4, tz_put SH 3 3, tz_vret]
  | _ => []
def bp_Li_sendGreeting : Nat → Nat := fun b => match b with
  | 0 => 0
  | _ => 0
set_option maxRecDepth 100000 in
set_option maxHeartbeats 4000000 in
theorem sd_Li_sendGreeting (X : rz_X) (G : rz_Cx CL X c_Li_sendGreeting 2 rz_tbl R_Li ({ frames := 0, cells := 0, slots := 0, locals := 0 })) : ∀ b, rz_SB SH CL X bp_Li_sendGreeting (rz_RV SH CL X c_Li_sendGreeting) (bk_Li_sendGreeting b) (bp_Li_sendGreeting b) := fun b => match b with
  | 0 => (rz_cons (rz_aload_n G d_Li_sendGreeting_0 rfl) (rz_cons (rz_get G rfl in_Li (by decide) wd_67 d_Li_sendGreeting_1) (rz_cons (rz_iconst G d_Li_sendGreeting_4 (by decide)) (rz_cons (rz_bipush G d_Li_sendGreeting_5 (by decide)) (rz_cons (rz_iast G d_Li_sendGreeting_7) (rz_cons (rz_aload_n G d_Li_sendGreeting_8 rfl) (rz_cons (rz_get G rfl in_Li (by decide) wd_67 d_Li_sendGreeting_9) (rz_cons (rz_iconst G d_Li_sendGreeting_12 (by decide)) (rz_cons (rz_iconst G d_Li_sendGreeting_13 (by decide)) (rz_cons (rz_iast G d_Li_sendGreeting_14) (rz_cons (rz_aload_n G d_Li_sendGreeting_15 rfl) (rz_cons (rz_get G rfl in_Li (by decide) wd_67 d_Li_sendGreeting_16) (rz_cons (rz_iconst G d_Li_sendGreeting_19 (by decide)) (rz_cons (rz_iload_n G d_Li_sendGreeting_20 rfl) (rz_cons (rz_iast G d_Li_sendGreeting_21) (rz_cons (rz_aload_n G d_Li_sendGreeting_22 rfl) (rz_cons (rz_get G rfl in_Li (by decide) wd_67 d_Li_sendGreeting_23) (rz_cons (rz_iconst G d_Li_sendGreeting_26 (by decide)) (rz_cons (rz_bipush G d_Li_sendGreeting_27 (by decide)) (rz_cons (rz_iast G d_Li_sendGreeting_29) (rz_cons (rz_aload_n G d_Li_sendGreeting_30 rfl) (rz_cons (rz_iconst G d_Li_sendGreeting_31 (by decide)) (rz_cons (rz_put G rfl in_Li ty_Li tyok_Li nm_Li (by decide) rfl (by decide +kernel) wd_69 d_Li_sendGreeting_32) (rz_cons (rz_vret (npc := 0) d_Li_sendGreeting_35) rz_nil))))))))))))))))))))))))
  | _ + 1 => rz_nil
set_option maxRecDepth 100000 in
set_option maxHeartbeats 4000000 in
theorem bd_Li_sendGreeting : ∀ (Y : Nat → rz_K) (P : rz_P), (∀ b ls st μ, rz_ex P Y (bk_Li_sendGreeting b) ls st μ → Y b ls st μ) → ∀ As μ, C_Li_sendGreeting As μ P → Y 0 (rz_pad 2 (rz_ent As)) [] μ := by
  intro Y P hY As μ hC
  obtain ⟨t, rfl, hC⟩ := hC
  exact hY 0 _ _ _ (And.intro (vi_c (by decide)) (And.intro (vi_c (by decide)) (And.intro (vi_c (by decide)) (And.intro (vi_c (by decide)) hC))))
theorem m_Li_sendGreeting (E : rz_E) : rz_MV SH CL E y_Li_sendGreeting 2 (Cond.code y_Li_sendGreeting c_Li_sendGreeting 2 none :: rz_tbl) ({ frames := 0, cells := 0, slots := 0, locals := 0 }) C_Li_sendGreeting := rz_metV (by decide) rfl (fun X _ G => sd_Li_sendGreeting X G) bd_Li_sendGreeting
theorem cd_Li_sendGreeting : rz_Cd rz_tbl y_Li_sendGreeting c_Li_sendGreeting 2 none (Cond.code y_Li_sendGreeting c_Li_sendGreeting 2 none :: rz_tbl) 1 ({ frames := 0, cells := 0, slots := 0, locals := 0 }) := ⟨rz_good wd_345, ⟨_, rfl⟩, wd_41, by decide +kernel, rfl, rfl⟩
def f_again (n : Nat) (μ : rz_M) : rz_M := rz_up (rz_uf μ 3 (va_cpy (μ 4) (μ 3) 0 0 n)) 1 3 (nI n)
def C_Li_sendAgain : rz_C := fun As μ P => ∃ n : Nat, As = [.ref 1] ∧ μ 1 5 = nI n ∧ n ≤ 36 ∧ P none (f_again n μ)
def bk_Li_sendAgain : Nat → List rz_T := fun b => match b with
  | 0 => [tz_aload 0, tz_get SH 3 4, tz_iconst 0, tz_aload 0, tz_get SH 3 2, tz_iconst 0, tz_aload 0, tz_get SH 3 5, tz_copy SH, tz_aload 0, tz_aload 0, tz_get SH 3 5, tz_put SH 3 3, tz_vret]
  | _ => []
def bp_Li_sendAgain : Nat → Nat := fun b => match b with
  | 0 => 0
  | _ => 0
set_option maxRecDepth 100000 in
set_option maxHeartbeats 4000000 in
theorem sd_Li_sendAgain (X : rz_X) (G : rz_Cx CL X c_Li_sendAgain 1 rz_tbl R_Li ({ frames := 1, cells := 0, slots := 0, locals := 26 })) : ∀ b, rz_SB SH CL X bp_Li_sendAgain (rz_RV SH CL X c_Li_sendAgain) (bk_Li_sendAgain b) (bp_Li_sendAgain b) := fun b => match b with
  | 0 => (rz_cons (rz_aload_n G d_Li_sendAgain_0 rfl) (rz_cons (rz_get G rfl in_Li (by decide) wd_71 d_Li_sendAgain_1) (rz_cons (rz_iconst G d_Li_sendAgain_4 (by decide)) (rz_cons (rz_aload_n G d_Li_sendAgain_5 rfl) (rz_cons (rz_get G rfl in_Li (by decide) wd_67 d_Li_sendAgain_6) (rz_cons (rz_iconst G d_Li_sendAgain_9 (by decide)) (rz_cons (rz_aload_n G d_Li_sendAgain_10 rfl) (rz_cons (rz_get G rfl in_Li (by decide) wd_72 d_Li_sendAgain_11) (rz_cons (rz_copy G wd_555 wd_557 wd_556 wd_49 (by decide +kernel) d_Li_sendAgain_14) (rz_cons (rz_aload_n G d_Li_sendAgain_17 rfl) (rz_cons (rz_aload_n G d_Li_sendAgain_18 rfl) (rz_cons (rz_get G rfl in_Li (by decide) wd_72 d_Li_sendAgain_19) (rz_cons (rz_put G rfl in_Li ty_Li tyok_Li nm_Li (by decide) rfl (by decide +kernel) wd_69 d_Li_sendAgain_22) (rz_cons (rz_vret (npc := 0) d_Li_sendAgain_25) rz_nil))))))))))))))
  | _ + 1 => rz_nil
set_option maxRecDepth 100000 in
set_option maxHeartbeats 4000000 in
theorem bd_Li_sendAgain : ∀ (Y : Nat → rz_K) (P : rz_P), (∀ b ls st μ, rz_ex P Y (bk_Li_sendAgain b) ls st μ → Y b ls st μ) → ∀ As μ, C_Li_sendAgain As μ P → Y 0 (rz_pad 1 (rz_ent As)) [] μ := by
  intro Y P hY As μ hC
  obtain ⟨n, rfl, hn, h36, hC⟩ := hC
  have c1 : (μ 1 5).toNatClampNeg = n := by rw [hn]; exact nI_clamp (by omega)
  refine hY 0 _ _ _ (And.intro ⟨by decide, by decide, ?_, ?_, ?_⟩ ?_)
  · show ¬ μ 1 5 < 0
    rw [hn]; exact nI_pos (by omega)
  · show (0 : Int32).toNatClampNeg + (μ 1 5).toNatClampNeg ≤ 36
    rw [c1]; simpa using h36
  · show (0 : Int32).toNatClampNeg + (μ 1 5).toNatClampNeg ≤ 36
    rw [c1]; simpa using h36
  · unfold f_again at hC
    rw [← hn] at hC
    rw [c1]
    exact hC
theorem m_Li_sendAgain (E : rz_E) : rz_MV SH CL E y_Li_sendAgain 1 (Cond.code y_Li_sendAgain c_Li_sendAgain 1 none :: rz_tbl) ({ frames := 1, cells := 0, slots := 0, locals := 26 }) C_Li_sendAgain := rz_metV (by decide) rfl (fun X _ G => sd_Li_sendAgain X G) bd_Li_sendAgain
theorem cd_Li_sendAgain : rz_Cd rz_tbl y_Li_sendAgain c_Li_sendAgain 1 none (Cond.code y_Li_sendAgain c_Li_sendAgain 1 none :: rz_tbl) 0 ({ frames := 1, cells := 0, slots := 0, locals := 26 }) := ⟨rz_good wd_566, ⟨_, rfl⟩, wd_41, by decide +kernel, rfl, rfl⟩
/-- a reply: 0, pcb, how many, those, and the sum -/
def xr (a : Int32) (d : Nat → Int32) : Nat → Int32
  | 0 => a
  | n + 1 => xr a d n ^^^ d n
def fa (f : Nat → Int32) (x : Int32) (n : Nat) (d : Nat → Int32) : Nat → Int32 := fun j => if j = 0 then 0 else if j = 1 then x else if j = 2 then nI n else if j < 3 + n then d (j - 3) else f j
def fr (f : Nat → Int32) (x : Int32) (n : Nat) (d : Nat → Int32) : Nat → Int32 := upd (fa f x n d) (3 + n) (xr (x ^^^ nI n) d n)
theorem fa_xs {f : Nat → Int32} {x : Int32} {n : Nat} {d : Nat → Int32} : ∀ m, m ≤ n → xs (fa f x n d) (3 + m) = xr (x ^^^ nI n) d m
  | 0, _ => by simp [xs, fa, xr]
  | m + 1, h => by
    rw [show 3 + (m + 1) = (3 + m) + 1 from rfl, xs, fa_xs m (by omega), xr]
    congr 1
    unfold fa
    rw [if_neg (by omega), if_neg (by omega), if_neg (by omega), if_pos (by omega)]
    congr 1
    omega
theorem fa_begin (x : Int32) (μ : rz_M) (d : Nat → Int32) : f_begin x μ = rz_up (rz_uf μ 3 (fa (μ 3) x 0 d)) 1 3 3 := by
  unfold f_begin
  congr 1
  funext k
  by_cases hk : k = 3
  · subst hk
    rw [rz_uf_eq]
    funext j
    by_cases h0 : j = 0
    · subst h0; rfl
    · by_cases h1 : j = 1
      · subst h1; rfl
      · by_cases h2 : j = 2
        · subst h2; rfl
        · rw [rz_up_j h2, rz_up_j h1, rz_up_j h0]
          unfold fa
          rw [if_neg h0, if_neg h1, if_neg h2, if_neg (by omega)]
  · rw [rz_uf_ne hk, rz_up_k hk, rz_up_k hk, rz_up_k hk]
theorem fa_finish (x : Int32) (n : Nat) (d : Nat → Int32) (μ : rz_M) : f_finish (3 + n) (rz_up (rz_uf μ 3 (fa (μ 3) x n d)) 1 3 (nI (3 + n))) = rz_up (rz_uf μ 3 (fr (μ 3) x n d)) 1 3 (nI (n + 4)) := by
  unfold f_finish
  have e : rz_up (rz_uf μ 3 (fa (μ 3) x n d)) 1 3 (nI (3 + n)) 3 = fa (μ 3) x n d := by rw [rz_up_k (by decide), rz_uf_eq]
  rw [e, fa_xs n (Nat.le_refl n), rz_up_comm (k := 1) (k2 := 3) (Or.inl (by decide)), rz_up_same, show 3 + n + 1 = n + 4 by omega]
  congr 1
  funext k
  by_cases hk : k = 3
  · subst hk
    unfold rz_up
    rw [rz_uf_eq, rz_uf_eq, rz_uf_eq]
    rfl
  · rw [rz_up_k hk, rz_uf_ne hk, rz_uf_ne hk]
def f_say (x : Int32) (n : Nat) (d : Nat → Int32) (μ : rz_M) : rz_M := rz_up (rz_uf μ 3 (fr (μ 3) x n d)) 1 3 (nI (n + 4))
def C_Li_sendReady : rz_C := fun As μ P => ∃ e : Int32, As = [.ref 1, .int e] ∧ P none (rz_up (f_say (128 + 16 * μ 1 6 + e) 0 (fun _ => 0) μ) 1 5 0)
def bk_Li_sendReady : Nat → List rz_T := fun b => match b with
  | 0 => [tz_aload 0, tz_sipush 128, tz_bipush 16, tz_aload 0, tz_get SH 3 6, tz_imul, tz_iadd, tz_iload 1, tz_iadd, tz_cv SH 1 3 2 C_Li_begin, tz_aload 0, tz_cv SH 0 3 1 C_Li_finish, tz_aload 0, tz_iconst 0, tz_put SH 3 5, tz_vret]
  | _ => []
def bp_Li_sendReady : Nat → Nat := fun b => match b with
  | 0 => 0
  | _ => 0
set_option maxRecDepth 100000 in
set_option maxHeartbeats 4000000 in
theorem sd_Li_sendReady (X : rz_X) (G : rz_Cx CL X c_Li_sendReady 2 rz_tbl R_Li ({ frames := 2, cells := 0, slots := 0, locals := 43 })) : ∀ b, rz_SB SH CL X bp_Li_sendReady (rz_RV SH CL X c_Li_sendReady) (bk_Li_sendReady b) (bp_Li_sendReady b) := fun b => match b with
  | 0 => (rz_cons (rz_aload_n G d_Li_sendReady_0 rfl) (rz_cons (rz_sipush G d_Li_sendReady_1 (by decide)) (rz_cons (rz_bipush G d_Li_sendReady_4 (by decide)) (rz_cons (rz_aload_n G d_Li_sendReady_6 rfl) (rz_cons (rz_get G rfl in_Li (by decide) wd_74 d_Li_sendReady_7) (rz_cons (rz_imul G d_Li_sendReady_10) (rz_cons (rz_iadd G d_Li_sendReady_11) (rz_cons (rz_iload_n G d_Li_sendReady_12 rfl) (rz_cons (rz_iadd G d_Li_sendReady_13) (rz_cons (rz_cvv G (m_Li_begin X.1) cd_Li_begin wd_410 wd_412 wd_4 rfl rfl (by decide) d_Li_sendReady_14) (rz_cons (rz_aload_n G d_Li_sendReady_17 rfl) (rz_cons (rz_cvv G (m_Li_finish X.1) cd_Li_finish wd_414 wd_416 wd_5 rfl rfl (by decide) d_Li_sendReady_18) (rz_cons (rz_aload_n G d_Li_sendReady_21 rfl) (rz_cons (rz_iconst G d_Li_sendReady_22 (by decide)) (rz_cons (rz_put G rfl in_Li ty_Li tyok_Li nm_Li (by decide) rfl (by decide +kernel) wd_72 d_Li_sendReady_23) (rz_cons (rz_vret (npc := 0) d_Li_sendReady_26) rz_nil))))))))))))))))
  | _ + 1 => rz_nil
set_option maxRecDepth 100000 in
set_option maxHeartbeats 4000000 in
theorem bd_Li_sendReady : ∀ (Y : Nat → rz_K) (P : rz_P), (∀ b ls st μ, rz_ex P Y (bk_Li_sendReady b) ls st μ → Y b ls st μ) → ∀ As μ, C_Li_sendReady As μ P → Y 0 (rz_pad 2 (rz_ent As)) [] μ := by
  intro Y P hY As μ hC
  obtain ⟨e, rfl, hC⟩ := hC
  refine hY 0 _ _ _ ⟨_, rfl, 3, rfl, ?_, by decide, ?_⟩
  · rfl
  · rw [fa_begin _ _ (fun _ => 0)]
    have := fa_finish (128 + 16 * μ 1 6 + e) 0 (fun _ => 0) μ
    unfold f_say at hC
    rw [← this] at hC
    exact hC
theorem m_Li_sendReady (E : rz_E) : rz_MV SH CL E y_Li_sendReady 2 (Cond.code y_Li_sendReady c_Li_sendReady 2 none :: rz_tbl) ({ frames := 2, cells := 0, slots := 0, locals := 43 }) C_Li_sendReady := rz_metV (by decide) rfl (fun X _ G => sd_Li_sendReady X G) bd_Li_sendReady
theorem cd_Li_sendReady : rz_Cd rz_tbl y_Li_sendReady c_Li_sendReady 2 none (Cond.code y_Li_sendReady c_Li_sendReady 2 none :: rz_tbl) 1 ({ frames := 2, cells := 0, slots := 0, locals := 43 }) := ⟨rz_good wd_409, ⟨_, rfl⟩, wd_41, by decide +kernel, rfl, rfl⟩
def C_Li_sendSupervision : rz_C := fun As μ P => ∃ x : Int32, As = [.ref 1, .int x] ∧ P none (f_say x 0 (fun _ => 0) μ)
def bk_Li_sendSupervision : Nat → List rz_T := fun b => match b with
  | 0 => [tz_aload 0, tz_iload 1, tz_cv SH 1 3 2 C_Li_begin, tz_aload 0, tz_cv SH 0 3 1 C_Li_finish, tz_vret]
  | _ => []
def bp_Li_sendSupervision : Nat → Nat := fun b => match b with
  | 0 => 0
  | _ => 0
set_option maxRecDepth 100000 in
set_option maxHeartbeats 4000000 in
theorem sd_Li_sendSupervision (X : rz_X) (G : rz_Cx CL X c_Li_sendSupervision 2 rz_tbl R_Li ({ frames := 2, cells := 0, slots := 0, locals := 43 })) : ∀ b, rz_SB SH CL X bp_Li_sendSupervision (rz_RV SH CL X c_Li_sendSupervision) (bk_Li_sendSupervision b) (bp_Li_sendSupervision b) := fun b => match b with
  | 0 => (rz_cons (rz_aload_n G d_Li_sendSupervision_0 rfl) (rz_cons (rz_iload_n G d_Li_sendSupervision_1 rfl) (rz_cons (rz_cvv G (m_Li_begin X.1) cd_Li_begin wd_410 wd_412 wd_4 rfl rfl (by decide) d_Li_sendSupervision_2) (rz_cons (rz_aload_n G d_Li_sendSupervision_5 rfl) (rz_cons (rz_cvv G (m_Li_finish X.1) cd_Li_finish wd_414 wd_416 wd_5 rfl rfl (by decide) d_Li_sendSupervision_6) (rz_cons (rz_vret (npc := 0) d_Li_sendSupervision_9) rz_nil))))))
  | _ + 1 => rz_nil
set_option maxRecDepth 100000 in
set_option maxHeartbeats 4000000 in
theorem bd_Li_sendSupervision : ∀ (Y : Nat → rz_K) (P : rz_P), (∀ b ls st μ, rz_ex P Y (bk_Li_sendSupervision b) ls st μ → Y b ls st μ) → ∀ As μ, C_Li_sendSupervision As μ P → Y 0 (rz_pad 2 (rz_ent As)) [] μ := by
  intro Y P hY As μ hC
  obtain ⟨x, rfl, hC⟩ := hC
  refine hY 0 _ _ _ ⟨_, rfl, 3, rfl, ?_, by decide, ?_⟩
  · rfl
  · rw [fa_begin _ _ (fun _ => 0)]
    have := fa_finish x 0 (fun _ => 0) μ
    unfold f_say at hC
    rw [← this] at hC
    exact hC
theorem m_Li_sendSupervision (E : rz_E) : rz_MV SH CL E y_Li_sendSupervision 2 (Cond.code y_Li_sendSupervision c_Li_sendSupervision 2 none :: rz_tbl) ({ frames := 2, cells := 0, slots := 0, locals := 43 }) C_Li_sendSupervision := rz_metV (by decide) rfl (fun X _ G => sd_Li_sendSupervision X G) bd_Li_sendSupervision
theorem cd_Li_sendSupervision : rz_Cd rz_tbl y_Li_sendSupervision c_Li_sendSupervision 2 none (Cond.code y_Li_sendSupervision c_Li_sendSupervision 2 none :: rz_tbl) 1 ({ frames := 2, cells := 0, slots := 0, locals := 43 }) := ⟨rz_good wd_584, ⟨_, rfl⟩, wd_41, by decide +kernel, rfl, rfl⟩
theorem fa_append {x y : Int32} {n : Nat} {d : Nat → Int32} {μ : rz_M} (hy : y = d n) : f_append y (3 + n) (rz_up (rz_uf μ 3 (fa (μ 3) x n d)) 1 3 (nI (3 + n))) = rz_up (rz_uf μ 3 (fa (μ 3) x (n + 1) d)) 1 3 (nI (3 + (n + 1))) := by
  unfold f_append
  have e : rz_up (rz_uf μ 3 (fa (μ 3) x n d)) 1 3 (nI (3 + n)) 3 = fa (μ 3) x n d := by rw [rz_up_k (by decide), rz_uf_eq]
  rw [e, rz_up_same, rz_up_comm (k := 1) (Or.inl (by decide)), rz_up_comm (k := 1) (Or.inl (by decide))]
  congr 1
  funext k
  by_cases hk : k = 3
  · subst hk
    rw [rz_uf_eq]
    funext j
    by_cases h2 : j = 2
    · subst h2
      rw [rz_up_at]
      show nI n + 1 = nI (n + 1)
      rw [nI_succ]
    · rw [rz_up_j h2]
      by_cases hj : j = 3 + n
      · subst hj
        rw [rz_up_at, hy]
        unfold fa
        rw [if_neg (by omega), if_neg (by omega), if_neg (by omega), if_pos (by omega)]
        congr 1
        omega
      · rw [rz_up_j hj, rz_uf_eq]
        unfold fa
        by_cases h0 : j = 0
        · rw [if_pos h0, if_pos h0]
        · rw [if_neg h0, if_neg h0]
          by_cases h1 : j = 1
          · rw [if_pos h1, if_pos h1]
          · rw [if_neg h1, if_neg h1, if_neg h2, if_neg h2]
            by_cases h3 : j < 3 + n
            · rw [if_pos h3, if_pos (by omega)]
            · rw [if_neg h3, if_neg (by omega)]
  · rw [rz_up_k hk, rz_up_k hk, rz_uf_ne hk, rz_uf_ne hk]
def C_Li_sendSize : rz_C := fun As μ P => As = [.ref 1] ∧ P none (f_say 225 1 (fun _ => μ 1 8) μ)
def bk_Li_sendSize : Nat → List rz_T := fun b => match b with
  | 0 => [tz_aload 0, tz_sipush 225, tz_cv SH 1 3 2 C_Li_begin, tz_aload 0, tz_aload 0, tz_get SH 3 8, tz_cv SH 1 3 2 C_Li_append, tz_aload 0, tz_cv SH 0 3 1 C_Li_finish, tz_vret]
  | _ => []
def bp_Li_sendSize : Nat → Nat := fun b => match b with
  | 0 => 0
  | _ => 0
set_option maxRecDepth 100000 in
set_option maxHeartbeats 4000000 in
theorem sd_Li_sendSize (X : rz_X) (G : rz_Cx CL X c_Li_sendSize 1 rz_tbl R_Li ({ frames := 2, cells := 0, slots := 0, locals := 43 })) : ∀ b, rz_SB SH CL X bp_Li_sendSize (rz_RV SH CL X c_Li_sendSize) (bk_Li_sendSize b) (bp_Li_sendSize b) := fun b => match b with
  | 0 => (rz_cons (rz_aload_n G d_Li_sendSize_0 rfl) (rz_cons (rz_sipush G d_Li_sendSize_1 (by decide)) (rz_cons (rz_cvv G (m_Li_begin X.1) cd_Li_begin wd_410 wd_412 wd_4 rfl rfl (by decide) d_Li_sendSize_4) (rz_cons (rz_aload_n G d_Li_sendSize_7 rfl) (rz_cons (rz_aload_n G d_Li_sendSize_8 rfl) (rz_cons (rz_get G rfl in_Li (by decide) wd_78 d_Li_sendSize_9) (rz_cons (rz_cvv G (m_Li_append X.1) cd_Li_append wd_551 wd_553 wd_14 rfl rfl (by decide) d_Li_sendSize_12) (rz_cons (rz_aload_n G d_Li_sendSize_15 rfl) (rz_cons (rz_cvv G (m_Li_finish X.1) cd_Li_finish wd_414 wd_416 wd_5 rfl rfl (by decide) d_Li_sendSize_16) (rz_cons (rz_vret (npc := 0) d_Li_sendSize_19) rz_nil))))))))))
  | _ + 1 => rz_nil
set_option maxRecDepth 100000 in
set_option maxHeartbeats 4000000 in
theorem bd_Li_sendSize : ∀ (Y : Nat → rz_K) (P : rz_P), (∀ b ls st μ, rz_ex P Y (bk_Li_sendSize b) ls st μ → Y b ls st μ) → ∀ As μ, C_Li_sendSize As μ P → Y 0 (rz_pad 1 (rz_ent As)) [] μ := by
  intro Y P hY As μ hC
  obtain ⟨rfl, hC⟩ := hC
  refine hY 0 _ _ _ ⟨_, rfl, ?_⟩
  rw [fa_begin _ _ (fun _ => μ 1 8)]
  refine ⟨_, 3, rfl, rfl, by decide, by decide, ?_⟩
  have h1 := fa_append (x := 225) (y := μ 1 8) (n := 0) (d := fun _ => μ 1 8) (μ := μ) rfl
  have h2 := fa_finish 225 1 (fun _ => μ 1 8) μ
  unfold f_say at hC
  rw [← h2] at hC
  refine ⟨4, rfl, ?_, by decide, ?_⟩
  · rfl
  · show P none (f_finish 4 (f_append (μ 1 8) 3 (rz_up (rz_uf μ 3 (fa (μ 3) 225 0 (fun _ => μ 1 8))) 1 3 3)))
    have h3 : f_append (μ 1 8) 3 (rz_up (rz_uf μ 3 (fa (μ 3) 225 0 (fun _ => μ 1 8))) 1 3 3) = rz_up (rz_uf μ 3 (fa (μ 3) 225 1 (fun _ => μ 1 8))) 1 3 (nI 4) := h1
    rw [h3]
    exact hC
theorem m_Li_sendSize (E : rz_E) : rz_MV SH CL E y_Li_sendSize 1 (Cond.code y_Li_sendSize c_Li_sendSize 1 none :: rz_tbl) ({ frames := 2, cells := 0, slots := 0, locals := 43 }) C_Li_sendSize := rz_metV (by decide) rfl (fun X _ G => sd_Li_sendSize X G) bd_Li_sendSize
theorem cd_Li_sendSize : rz_Cd rz_tbl y_Li_sendSize c_Li_sendSize 1 none (Cond.code y_Li_sendSize c_Li_sendSize 1 none :: rz_tbl) 0 ({ frames := 2, cells := 0, slots := 0, locals := 43 }) := ⟨rz_good wd_578, ⟨_, rfl⟩, wd_41, by decide +kernel, rfl, rfl⟩
theorem rz_uf_up {μ : rz_M} {k k2 j : Nat} {f : Nat → Int32} {y : Int32} (h : k2 ≠ k) : rz_up (rz_uf μ k f) k2 j y = rz_uf (rz_up μ k2 j y) k f := by
  funext c
  by_cases hc : c = k2
  · subst hc
    unfold rz_up
    rw [rz_uf_eq, rz_uf_ne h, rz_uf_ne h, rz_uf_eq]
  · by_cases hk : c = k
    · subst hk; rw [rz_up_k hc, rz_uf_eq, rz_uf_eq]
    · rw [rz_up_k hc, rz_uf_ne hk, rz_uf_ne hk, rz_up_k hc]
def v_pcb (μ : rz_M) (n l : Nat) : Int32 := 64 * μ 1 7 + (if nI l ≤ nI n then 0 else 32)
/-- a piece of n OCTETS of the answer, from the b-th on; l are left -/
def f_piece0 (b n l : Nat) (μ : rz_M) : rz_M := rz_up (f_say (v_pcb μ n l) n (fun k => μ 18 (b + k)) (rz_up μ 17 2 (nI (b + n)))) 1 7 (μ 1 7 ^^^ 1)
def f_piece (b n l : Nat) (μ : rz_M) : rz_M := rz_up (rz_uf (f_piece0 b n l μ) 4 (va_cpy (f_piece0 b n l μ 3) (μ 4) 0 0 (n + 4))) 1 5 (nI (n + 4))
def C_Li_sendPiece : rz_C := fun As μ P => ∃ a b z : Nat, As = [.ref 1, .ref 17] ∧ μ 17 1 = nI a ∧ μ 17 2 = nI b ∧ μ 1 8 = nI z ∧ b ≤ a ∧ a ≤ 26 ∧ z ≤ 32 ∧ P none (f_piece b (min z (a - b)) (a - b) μ)
def bk_Li_sendPiece : Nat → List rz_T := fun b => match b with
  | 0 => [tz_aload 0, tz_get SH 3 8, tz_aload 1, tz_cv SH 0 0 1 C_An_left, tz_min, tz_istore 2, tz_aload 0, tz_bipush 64, tz_aload 0, tz_get SH 3 7, tz_imul, tz_iload 2, tz_aload 1, tz_cv SH 0 0 1 C_An_left, tz_icmp_ge 1, tz_bipush 32, tz_goto 2]
  | 1 => [tz_iconst 0, tz_fall 2]
  | 2 => [tz_iadd, tz_cv SH 1 3 2 C_Li_begin, tz_iconst 0, tz_istore 3, tz_fall 3]
  | 3 => [tz_iload 3, tz_iload 2, tz_icmp_ge 4, tz_aload 0, tz_aload 1, tz_cv SH 0 0 1 C_An_next, tz_cv SH 1 3 2 C_Li_append, tz_iinc 3 1, tz_goto 3]
  | 4 => [tz_aload 0, tz_cv SH 0 3 1 C_Li_finish, tz_aload 0, tz_dup, tz_get SH 3 7, tz_iconst 1, tz_ixor, tz_put SH 3 7, tz_aload 0, tz_get SH 3 2, tz_iconst 0, tz_aload 0, tz_get SH 3 4, tz_iconst 0, tz_aload 0, tz_get SH 3 3, tz_copy SH, tz_aload 0, tz_aload 0, tz_get SH 3 3, tz_put SH 3 5, tz_vret]
  | _ => []
def bp_Li_sendPiece : Nat → Nat := fun b => match b with
  | 0 => 0
  | 1 => 33
  | 2 => 34
  | 3 => 40
  | 4 => 59
  | _ => 0
set_option maxRecDepth 100000 in
set_option maxHeartbeats 4000000 in
theorem sd_Li_sendPiece (X : rz_X) (G : rz_Cx CL X c_Li_sendPiece 4 rz_tbl R_Li ({ frames := 2, cells := 0, slots := 0, locals := 43 })) : ∀ b, rz_SB SH CL X bp_Li_sendPiece (rz_RV SH CL X c_Li_sendPiece) (bk_Li_sendPiece b) (bp_Li_sendPiece b) := fun b => match b with
  | 0 => (rz_cons (rz_aload_n G d_Li_sendPiece_0 rfl) (rz_cons (rz_get G rfl in_Li (by decide) wd_78 d_Li_sendPiece_1) (rz_cons (rz_aload_n G d_Li_sendPiece_4 rfl) (rz_cons (rz_cvi G (m_An_left X.1) cd_An_left wd_542 wd_543 wd_544 rfl rfl (by decide) d_Li_sendPiece_5) (rz_cons (rz_min G wd_546 wd_491 wd_48 wd_492 (by decide) d_Li_sendPiece_8) (rz_cons (rz_istore_n G d_Li_sendPiece_11 rfl (by decide)) (rz_cons (rz_aload_n G d_Li_sendPiece_12 rfl) (rz_cons (rz_bipush G d_Li_sendPiece_13 (by decide)) (rz_cons (rz_aload_n G d_Li_sendPiece_15 rfl) (rz_cons (rz_get G rfl in_Li (by decide) wd_76 d_Li_sendPiece_16) (rz_cons (rz_imul G d_Li_sendPiece_19) (rz_cons (rz_iload_n G d_Li_sendPiece_20 rfl) (rz_cons (rz_aload_n G d_Li_sendPiece_21 rfl) (rz_cons (rz_cvi G (m_An_left X.1) cd_An_left wd_542 wd_543 wd_544 rfl rfl (by decide) d_Li_sendPiece_22) (rz_cons (rz_icmp_ge G d_Li_sendPiece_25 (by decide)) (rz_cons (rz_bipush G d_Li_sendPiece_28 (by decide)) (rz_cons (rz_goto (npc := 0) G d_Li_sendPiece_30 (by decide)) rz_nil)))))))))))))))))
  | 1 => (rz_cons (rz_iconst G d_Li_sendPiece_33 (by decide)) (rz_fall rfl))
  | 2 => (rz_cons (rz_iadd G d_Li_sendPiece_34) (rz_cons (rz_cvv G (m_Li_begin X.1) cd_Li_begin wd_410 wd_412 wd_4 rfl rfl (by decide) d_Li_sendPiece_35) (rz_cons (rz_iconst G d_Li_sendPiece_38 (by decide)) (rz_cons (rz_istore_n G d_Li_sendPiece_39 rfl (by decide)) (rz_fall rfl)))))
  | 3 => (rz_cons (rz_iload_n G d_Li_sendPiece_40 rfl) (rz_cons (rz_iload_n G d_Li_sendPiece_41 rfl) (rz_cons (rz_icmp_ge G d_Li_sendPiece_42 (by decide)) (rz_cons (rz_aload_n G d_Li_sendPiece_45 rfl) (rz_cons (rz_aload_n G d_Li_sendPiece_46 rfl) (rz_cons (rz_cvi G (m_An_next X.1) cd_An_next wd_547 wd_548 wd_549 rfl rfl (by decide) d_Li_sendPiece_47) (rz_cons (rz_cvv G (m_Li_append X.1) cd_Li_append wd_551 wd_553 wd_14 rfl rfl (by decide) d_Li_sendPiece_50) (rz_cons (rz_iinc G d_Li_sendPiece_53 (by decide) (by decide)) (rz_cons (rz_goto (npc := 0) G d_Li_sendPiece_56 (by decide)) rz_nil)))))))))
  | 4 => (rz_cons (rz_aload_n G d_Li_sendPiece_59 rfl) (rz_cons (rz_cvv G (m_Li_finish X.1) cd_Li_finish wd_414 wd_416 wd_5 rfl rfl (by decide) d_Li_sendPiece_60) (rz_cons (rz_aload_n G d_Li_sendPiece_63 rfl) (rz_cons (rz_dup G d_Li_sendPiece_64) (rz_cons (rz_get G rfl in_Li (by decide) wd_76 d_Li_sendPiece_65) (rz_cons (rz_iconst G d_Li_sendPiece_68 (by decide)) (rz_cons (rz_ixor G d_Li_sendPiece_69) (rz_cons (rz_put G rfl in_Li ty_Li tyok_Li nm_Li (by decide) rfl (by decide +kernel) wd_76 d_Li_sendPiece_70) (rz_cons (rz_aload_n G d_Li_sendPiece_73 rfl) (rz_cons (rz_get G rfl in_Li (by decide) wd_67 d_Li_sendPiece_74) (rz_cons (rz_iconst G d_Li_sendPiece_77 (by decide)) (rz_cons (rz_aload_n G d_Li_sendPiece_78 rfl) (rz_cons (rz_get G rfl in_Li (by decide) wd_71 d_Li_sendPiece_79) (rz_cons (rz_iconst G d_Li_sendPiece_82 (by decide)) (rz_cons (rz_aload_n G d_Li_sendPiece_83 rfl) (rz_cons (rz_get G rfl in_Li (by decide) wd_69 d_Li_sendPiece_84) (rz_cons (rz_copy G wd_555 wd_557 wd_556 wd_49 (by decide +kernel) d_Li_sendPiece_87) (rz_cons (rz_aload_n G d_Li_sendPiece_90 rfl) (rz_cons (rz_aload_n G d_Li_sendPiece_91 rfl) (rz_cons (rz_get G rfl in_Li (by decide) wd_69 d_Li_sendPiece_92) (rz_cons (rz_put G rfl in_Li ty_Li tyok_Li nm_Li (by decide) rfl (by decide +kernel) wd_72 d_Li_sendPiece_95) (rz_cons (rz_vret (npc := 0) d_Li_sendPiece_98) rz_nil))))))))))))))))))))))
  | _ + 5 => rz_nil
set_option maxRecDepth 100000 in
set_option maxHeartbeats 4000000 in
theorem bd_Li_sendPiece : ∀ (Y : Nat → rz_K) (P : rz_P), (∀ b ls st μ, rz_ex P Y (bk_Li_sendPiece b) ls st μ → Y b ls st μ) → ∀ As μ, C_Li_sendPiece As μ P → Y 0 (rz_pad 4 (rz_ent As)) [] μ := by
  intro Y P hY As μ hC
  obtain ⟨a, b, z, rfl, ha, hb, hz, hba, h26, h32, hC⟩ := hC
  have hl : μ 17 1 - μ 17 2 = nI (a - b) := by rw [ha, hb]; exact pk_sub hba
  obtain ⟨n, hn⟩ : ∃ n, n = min z (a - b) := ⟨_, rfl⟩
  rw [← hn] at hC
  have hmin : (if μ 17 1 - μ 17 2 < μ 1 8 then μ 17 1 - μ 17 2 else μ 1 8) = nI n := by
    rw [hl, hz]
    by_cases h : a - b < z
    · rw [if_pos (nI_lt h (by omega))]; congr 1; omega
    · rw [if_neg (nI_nlt (by omega) (by omega))]; congr 1; omega
  have loop : ∀ d i, i + d = n → Y 3 [some (.ref 1), some (.ref 17), some (.int (nI n)), some (.int (nI i))] [] (rz_up (rz_uf (rz_up μ 17 2 (nI (b + i))) 3 (fa (μ 3) (v_pcb μ n (a - b)) i (fun k => μ 18 (b + k)))) 1 3 (nI (3 + i))) := by
    intro d
    induction d with
    | zero =>
      intro i hi
      have : i = n := by omega
      subst this
      refine hY 3 _ _ _ (And.intro (fun _ => ?_) (fun h => absurd (Int32.le_refl _) h))
      have h1 := fa_finish (v_pcb μ i (a - b)) i (fun k => μ 18 (b + k)) (rz_up μ 17 2 (nI (b + i)))
      rw [rz_up_k (k' := 3) (by decide)] at h1
      refine hY 4 _ _ _ ⟨3 + i, rfl, rfl, by omega, ?_⟩
      rw [h1]
      have e3 : rz_up (rz_uf (rz_up μ 17 2 (nI (b + i))) 3 (fr (μ 3) (v_pcb μ i (a - b)) i fun k => μ 18 (b + k))) 1 3 (nI (i + 4)) = f_say (v_pcb μ i (a - b)) i (fun k => μ 18 (b + k)) (rz_up μ 17 2 (nI (b + i))) := rfl
      have ep : rz_up (f_say (v_pcb μ i (a - b)) i (fun k => μ 18 (b + k)) (rz_up μ 17 2 (nI (b + i)))) 1 7 (μ 1 7 ^^^ 1) = f_piece0 b i (a - b) μ := rfl
      have c4 : (nI (i + 4)).toNatClampNeg = i + 4 := nI_clamp (by omega)
      refine And.intro ⟨by decide, by decide, ?_, ?_, ?_⟩ ?_
      · show ¬ nI (i + 4) < 0
        exact nI_pos (by omega)
      · show (0 : Int32).toNatClampNeg + (nI (i + 4)).toNatClampNeg ≤ 36
        rw [c4, sb_cl0]; omega
      · show (0 : Int32).toNatClampNeg + (nI (i + 4)).toNatClampNeg ≤ 36
        rw [c4, sb_cl0]; omega
      · have hC' := hC
        unfold f_piece at hC'
        show P none (rz_up (rz_uf (f_piece0 b i (a - b) μ) 4 (va_cpy (f_piece0 b i (a - b) μ 3) (μ 4) (0 : Int32).toNatClampNeg (0 : Int32).toNatClampNeg (nI (i + 4)).toNatClampNeg)) 1 5 (nI (i + 4)))
        rw [c4, sb_cl0]
        exact hC'
    | succ d ih =>
      intro i hi
      have hbi : (nI (b + i)).toNatClampNeg = b + i := nI_clamp (by omega)
      refine hY 3 _ _ _ (And.intro (fun h => absurd h (nI_ge (by omega) (by omega))) (fun _ => And.intro rfl ⟨?_, ?_, ?_, ?_⟩))
      · exact nI_pos' (n := b + i) (by omega)
      · exact nI_lt (a := b + i) (b := 26) (by omega) (by omega)
      · show nI (b + i) < μ 17 1
        rw [ha]; exact nI_lt (by omega) (by omega)
      · refine ⟨_, 3 + i, rfl, rfl, by omega, by omega, ?_⟩
        have h1 := fa_append (x := v_pcb μ n (a - b)) (y := μ 18 (b + i)) (n := i) (d := fun k => μ 18 (b + k)) (μ := rz_up μ 17 2 (nI (b + (i + 1)))) rfl
        rw [rz_up_k (k' := 3) (by decide)] at h1
        have e1 : rz_up (rz_up (rz_uf (rz_up μ 17 2 (nI (b + i))) 3 (fa (μ 3) (v_pcb μ n (a - b)) i fun k => μ 18 (b + k))) 1 3 (nI (3 + i))) 17 2 (nI (b + i) + 1) = rz_up (rz_uf (rz_up μ 17 2 (nI (b + (i + 1)))) 3 (fa (μ 3) (v_pcb μ n (a - b)) i fun k => μ 18 (b + k))) 1 3 (nI (3 + i)) := by
          rw [rz_up_comm (k := 1) (k2 := 17) (Or.inl (by decide)), rz_uf_up (by decide), rz_up_same, show b + (i + 1) = (b + i) + 1 from rfl, nI_succ (b + i)]
        have := ih (i + 1) (by omega)
        rw [← h1, nI_succ] at this
        show Y 3 [some (.ref 1), some (.ref 17), some (.int (nI n)), some (.int (nI i + 1))] [] (f_append (μ 18 (nI (b + i)).toNatClampNeg) (3 + i) (rz_up (rz_up (rz_uf (rz_up μ 17 2 (nI (b + i))) 3 (fa (μ 3) (v_pcb μ n (a - b)) i fun k => μ 18 (b + k))) 1 3 (nI (3 + i))) 17 2 (nI (b + i) + 1)))
        rw [e1, hbi]
        exact this
  have start : ∀ q : Int32, q = (if nI (a - b) ≤ nI n then 0 else 32) → Y 2 [some (.ref 1), some (.ref 17), some (.int (nI n)), none] [.int q, .int (64 * μ 1 7), .ref 1] μ := by
    intro q hq
    subst hq
    refine hY 2 _ _ _ ⟨_, rfl, ?_⟩
    have h0 := loop n 0 (by omega)
    have e0 : rz_up μ 17 2 (nI (b + 0)) = μ := rz_up_id hb
    rw [e0] at h0
    show Y 3 [some (.ref 1), some (.ref 17), some (.int (nI n)), some (.int 0)] [] (f_begin (v_pcb μ n (a - b)) μ)
    rw [fa_begin _ _ (fun k => μ 18 (b + k))]
    exact h0
  refine hY 0 _ _ _ (And.intro rfl (And.intro rfl ?_))
  show (μ 17 1 - μ 17 2 ≤ (if μ 17 1 - μ 17 2 < μ 1 8 then μ 17 1 - μ 17 2 else μ 1 8) → Y 1 [some (.ref 1), some (.ref 17), some (.int (if μ 17 1 - μ 17 2 < μ 1 8 then μ 17 1 - μ 17 2 else μ 1 8)), none] [.int (64 * μ 1 7), .ref 1] μ) ∧ (¬ μ 17 1 - μ 17 2 ≤ (if μ 17 1 - μ 17 2 < μ 1 8 then μ 17 1 - μ 17 2 else μ 1 8) → Y 2 [some (.ref 1), some (.ref 17), some (.int (if μ 17 1 - μ 17 2 < μ 1 8 then μ 17 1 - μ 17 2 else μ 1 8)), none] [.int 32, .int (64 * μ 1 7), .ref 1] μ)
  rw [hmin, hl]
  refine And.intro (fun h => hY 1 _ _ _ (start 0 (if_pos h).symm)) (fun h => start 32 (if_neg h).symm)
theorem m_Li_sendPiece (E : rz_E) : rz_MV SH CL E y_Li_sendPiece 4 (Cond.code y_Li_sendPiece c_Li_sendPiece 4 none :: rz_tbl) ({ frames := 2, cells := 0, slots := 0, locals := 43 }) C_Li_sendPiece := rz_metV (by decide) rfl (fun X _ G => sd_Li_sendPiece X G) bd_Li_sendPiece
theorem cd_Li_sendPiece : rz_Cd rz_tbl y_Li_sendPiece c_Li_sendPiece 4 none (Cond.code y_Li_sendPiece c_Li_sendPiece 4 none :: rz_tbl) 1 ({ frames := 2, cells := 0, slots := 0, locals := 43 }) := ⟨rz_good wd_541, ⟨_, rfl⟩, wd_41, by decide +kernel, rfl, rfl⟩
