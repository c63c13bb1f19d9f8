def C_An_clear : rz_C := fun As μ P => As = [.ref 17] ∧ P none (rz_up (rz_up μ 17 1 0) 17 2 0)
def bk_An_clear : Nat → List rz_T := fun b => match b with
  | 0 => [tz_aload 0, tz_iconst 0, tz_put SH 0 1, tz_aload 0, tz_iconst 0, tz_put SH 0 2, tz_vret]
  | _ => []
def bp_An_clear : Nat → Nat := fun b => match b with
  | 0 => 0
  | _ => 0
set_option maxRecDepth 100000 in
set_option maxHeartbeats 4000000 in
theorem sd_An_clear (X : rz_X) (G : rz_Cx CL X c_An_clear 1 rz_tbl R_An ({ frames := 0, cells := 0, slots := 0, locals := 0 })) : ∀ b, rz_SB SH CL X bp_An_clear (rz_RV SH CL X c_An_clear) (bk_An_clear b) (bp_An_clear b) := fun b => match b with
  | 0 => (rz_cons (rz_aload_n G d_An_clear_0 rfl) (rz_cons (rz_iconst G d_An_clear_1 (by decide)) (rz_cons (rz_put G rfl in_An ty_An tyok_An nm_An (by decide) rfl (by decide +kernel) wd_224 d_An_clear_2) (rz_cons (rz_aload_n G d_An_clear_5 rfl) (rz_cons (rz_iconst G d_An_clear_6 (by decide)) (rz_cons (rz_put G rfl in_An ty_An tyok_An nm_An (by decide) rfl (by decide +kernel) wd_225 d_An_clear_7) (rz_cons (rz_vret (npc := 0) d_An_clear_10) rz_nil)))))))
  | _ + 1 => rz_nil
set_option maxRecDepth 100000 in
set_option maxHeartbeats 4000000 in
theorem bd_An_clear : ∀ (Y : Nat → rz_K) (P : rz_P), (∀ b ls st μ, rz_ex P Y (bk_An_clear b) ls st μ → Y b ls st μ) → ∀ As μ, C_An_clear As μ P → Y 0 (rz_pad 1 (rz_ent As)) [] μ := by
  intro Y P hY As μ hC
  obtain ⟨rfl, hC⟩ := hC
  exact hY 0 _ _ _ hC
theorem m_An_clear (E : rz_E) : rz_MV SH CL E y_An_clear 1 (Cond.code y_An_clear c_An_clear 1 none :: rz_tbl) ({ frames := 0, cells := 0, slots := 0, locals := 0 }) C_An_clear := rz_metV (by decide) rfl (fun X _ G => sd_An_clear X G) bd_An_clear
theorem cd_An_clear : rz_Cd rz_tbl y_An_clear c_An_clear 1 none (Cond.code y_An_clear c_An_clear 1 none :: rz_tbl) 0 ({ frames := 0, cells := 0, slots := 0, locals := 0 }) := ⟨rz_good wd_329, ⟨_, rfl⟩, wd_46, by decide +kernel, rfl, rfl⟩
def f_An_add (x : Int32) (μ : rz_M) : rz_M := if 26 ≤ μ 17 1 then μ else rz_up (rz_up μ 17 1 (μ 17 1 + 1)) 18 (μ 17 1).toNatClampNeg x
def C_An_add : rz_C := fun As μ P => ∃ x, As = [.ref 17, .int x] ∧ 0 ≤ μ 17 1 ∧ P none (f_An_add x μ)
def bk_An_add : Nat → List rz_T := fun b => match b with
  | 0 => [tz_aload 0, tz_get SH 0 1, tz_aload 0, tz_get SH 0 0, tz_alen SH, tz_icmp_ge 1, tz_aload 0, tz_get SH 0 0, tz_aload 0, tz_dup, tz_get SH 0 1, tz_dup_x1, tz_iconst 1, tz_iadd, tz_put SH 0 1, tz_iload 1, tz_iast SH, tz_fall 1]
  | 1 => [tz_vret]
  | _ => []
def bp_An_add : Nat → Nat := fun b => match b with
  | 0 => 0
  | 1 => 29
  | _ => 0
set_option maxRecDepth 100000 in
set_option maxHeartbeats 4000000 in
theorem sd_An_add (X : rz_X) (G : rz_Cx CL X c_An_add 2 rz_tbl R_An ({ frames := 0, cells := 0, slots := 0, locals := 0 })) : ∀ b, rz_SB SH CL X bp_An_add (rz_RV SH CL X c_An_add) (bk_An_add b) (bp_An_add b) := fun b => match b with
  | 0 => (rz_cons (rz_aload_n G d_An_add_0 rfl) (rz_cons (rz_get G rfl in_An (by decide) wd_224 d_An_add_1) (rz_cons (rz_aload_n G d_An_add_4 rfl) (rz_cons (rz_get G rfl in_An (by decide) wd_223 d_An_add_5) (rz_cons (rz_alen G d_An_add_8) (rz_cons (rz_icmp_ge G d_An_add_9 (by decide)) (rz_cons (rz_aload_n G d_An_add_12 rfl) (rz_cons (rz_get G rfl in_An (by decide) wd_223 d_An_add_13) (rz_cons (rz_aload_n G d_An_add_16 rfl) (rz_cons (rz_dup G d_An_add_17) (rz_cons (rz_get G rfl in_An (by decide) wd_224 d_An_add_18) (rz_cons (rz_dup_x1 G d_An_add_21) (rz_cons (rz_iconst G d_An_add_22 (by decide)) (rz_cons (rz_iadd G d_An_add_23) (rz_cons (rz_put G rfl in_An ty_An tyok_An nm_An (by decide) rfl (by decide +kernel) wd_224 d_An_add_24) (rz_cons (rz_iload_n G d_An_add_27 rfl) (rz_cons (rz_iast G d_An_add_28) (rz_fall rfl))))))))))))))))))
  | 1 => (rz_cons (rz_vret (npc := 0) d_An_add_29) rz_nil)
  | _ + 2 => rz_nil
set_option maxRecDepth 100000 in
set_option maxHeartbeats 4000000 in
theorem bd_An_add : ∀ (Y : Nat → rz_K) (P : rz_P), (∀ b ls st μ, rz_ex P Y (bk_An_add b) ls st μ → Y b ls st μ) → ∀ As μ, C_An_add As μ P → Y 0 (rz_pad 2 (rz_ent As)) [] μ := by
  intro Y P hY As μ hC
  obtain ⟨x, rfl, h0, hC⟩ := hC
  exact hY 0 _ _ _ (And.intro (fun h => hY 1 _ _ _ (rzT (P none) h hC)) (fun h => And.intro (vi_lt h0 (Int32.not_le.mp h)) (hY 1 _ _ _ (rzF (P none) h hC))))
theorem m_An_add (E : rz_E) : rz_MV SH CL E y_An_add 2 (Cond.code y_An_add c_An_add 2 none :: rz_tbl) ({ frames := 0, cells := 0, slots := 0, locals := 0 }) C_An_add := rz_metV (by decide) rfl (fun X _ G => sd_An_add X G) bd_An_add
theorem cd_An_add : rz_Cd rz_tbl y_An_add c_An_add 2 none (Cond.code y_An_add c_An_add 2 none :: rz_tbl) 1 ({ frames := 0, cells := 0, slots := 0, locals := 0 }) := ⟨rz_good wd_501, ⟨_, rfl⟩, wd_46, by decide +kernel, rfl, rfl⟩
def C_An_left : rz_C := fun As μ P => As = [.ref 17] ∧ P (some (.int (μ 17 1 - μ 17 2))) μ
def bk_An_left : Nat → List rz_T := fun b => match b with
  | 0 => [tz_aload 0, tz_get SH 0 1, tz_aload 0, tz_get SH 0 2, tz_isub, tz_iret]
  | _ => []
def bp_An_left : Nat → Nat := fun b => match b with
  | 0 => 0
  | _ => 0
set_option maxRecDepth 100000 in
set_option maxHeartbeats 4000000 in
theorem sd_An_left (X : rz_X) (G : rz_Cx CL X c_An_left 1 rz_tbl R_An ({ frames := 0, cells := 0, slots := 0, locals := 0 })) : ∀ b, rz_SB SH CL X bp_An_left (rz_RI SH CL X c_An_left (fun v => narrow .int (.int v) = .int v)) (bk_An_left b) (bp_An_left b) := fun b => match b with
  | 0 => (rz_cons (rz_aload_n G d_An_left_0 rfl) (rz_cons (rz_get G rfl in_An (by decide) wd_224 d_An_left_1) (rz_cons (rz_aload_n G d_An_left_4 rfl) (rz_cons (rz_get G rfl in_An (by decide) wd_225 d_An_left_5) (rz_cons (rz_isub G d_An_left_8) (rz_cons (rz_iret (npc := 0) (fun _ => rfl) d_An_left_9) rz_nil))))))
  | _ + 1 => rz_nil
set_option maxRecDepth 100000 in
set_option maxHeartbeats 4000000 in
theorem bd_An_left : ∀ (Y : Nat → rz_K) (P : rz_P), (∀ b ls st μ, rz_ex P Y (bk_An_left b) ls st μ → Y b ls st μ) → ∀ As μ, C_An_left As μ P → Y 0 (rz_pad 1 (rz_ent As)) [] μ := by
  intro Y P hY As μ hC
  obtain ⟨rfl, hC⟩ := hC
  exact hY 0 _ _ _ hC
theorem m_An_left (E : rz_E) : rz_MI SH CL E y_An_left 1 (Cond.code y_An_left c_An_left 1 (some .int) :: rz_tbl) ({ frames := 0, cells := 0, slots := 0, locals := 0 }) C_An_left := rz_metI (by decide) rfl (fun X _ G => sd_An_left X G) bd_An_left
theorem cd_An_left : rz_Cd rz_tbl y_An_left c_An_left 1 (some .int) (Cond.code y_An_left c_An_left 1 (some .int) :: rz_tbl) 0 ({ frames := 0, cells := 0, slots := 0, locals := 0 }) := ⟨rz_good wd_545, ⟨_, rfl⟩, wd_46, by decide +kernel, rfl, rfl⟩
def C_An_next : rz_C := fun As μ P => As = [.ref 17] ∧ 0 ≤ μ 17 2 ∧ μ 17 2 < 26 ∧ μ 17 2 < μ 17 1 ∧ P (some (.int (μ 18 (μ 17 2).toNatClampNeg))) (rz_up μ 17 2 (μ 17 2 + 1))
def bk_An_next : Nat → List rz_T := fun b => match b with
  | 0 => [tz_aload 0, tz_get SH 0 2, tz_aload 0, tz_get SH 0 1, tz_icmp_ge 1, tz_aload 0, tz_get SH 0 0, tz_aload 0, tz_dup, tz_get SH 0 2, tz_dup_x1, tz_iconst 1, tz_iadd, tz_put SH 0 2, tz_iald SH, tz_goto 2]
  | 1 => [tz_iconst 0, tz_fall 2]
  | 2 => [tz_iret]
  | _ => []
def bp_An_next : Nat → Nat := fun b => match b with
  | 0 => 0
  | 1 => 30
  | 2 => 31
  | _ => 0
set_option maxRecDepth 100000 in
set_option maxHeartbeats 4000000 in
theorem sd_An_next (X : rz_X) (G : rz_Cx CL X c_An_next 1 rz_tbl R_An ({ frames := 0, cells := 0, slots := 0, locals := 0 })) : ∀ b, rz_SB SH CL X bp_An_next (rz_RI SH CL X c_An_next (fun v => narrow .int (.int v) = .int v)) (bk_An_next b) (bp_An_next b) := fun b => match b with
  | 0 => (rz_cons (rz_aload_n G d_An_next_0 rfl) (rz_cons (rz_get G rfl in_An (by decide) wd_225 d_An_next_1) (rz_cons (rz_aload_n G d_An_next_4 rfl) (rz_cons (rz_get G rfl in_An (by decide) wd_224 d_An_next_5) (rz_cons (rz_icmp_ge G d_An_next_8 (by decide)) (rz_cons (rz_aload_n G d_An_next_11 rfl) (rz_cons (rz_get G rfl in_An (by decide) wd_223 d_An_next_12) (rz_cons (rz_aload_n G d_An_next_15 rfl) (rz_cons (rz_dup G d_An_next_16) (rz_cons (rz_get G rfl in_An (by decide) wd_225 d_An_next_17) (rz_cons (rz_dup_x1 G d_An_next_20) (rz_cons (rz_iconst G d_An_next_21 (by decide)) (rz_cons (rz_iadd G d_An_next_22) (rz_cons (rz_put G rfl in_An ty_An tyok_An nm_An (by decide) rfl (by decide +kernel) wd_225 d_An_next_23) (rz_cons (rz_iald G d_An_next_26) (rz_cons (rz_goto (npc := 0) G d_An_next_27 (by decide)) rz_nil))))))))))))))))
  | 1 => (rz_cons (rz_iconst G d_An_next_30 (by decide)) (rz_fall rfl))
  | 2 => (rz_cons (rz_iret (npc := 0) (fun _ => rfl) d_An_next_31) rz_nil)
  | _ + 3 => rz_nil
set_option maxRecDepth 100000 in
set_option maxHeartbeats 4000000 in
theorem bd_An_next : ∀ (Y : Nat → rz_K) (P : rz_P), (∀ b ls st μ, rz_ex P Y (bk_An_next b) ls st μ → Y b ls st μ) → ∀ As μ, C_An_next As μ P → Y 0 (rz_pad 1 (rz_ent As)) [] μ := by
  intro Y P hY As μ hC
  obtain ⟨rfl, h0, h1, h2, hC⟩ := hC
  refine hY 0 _ _ _ (And.intro (fun h => ?_) (fun h => And.intro (vi_lt h0 h1) (hY 2 _ _ _ hC)))
  exact absurd h2 (Int32.not_lt.mpr h)
theorem m_An_next (E : rz_E) : rz_MI SH CL E y_An_next 1 (Cond.code y_An_next c_An_next 1 (some .int) :: rz_tbl) ({ frames := 0, cells := 0, slots := 0, locals := 0 }) C_An_next := rz_metI (by decide) rfl (fun X _ G => sd_An_next X G) bd_An_next
theorem cd_An_next : rz_Cd rz_tbl y_An_next c_An_next 1 (some .int) (Cond.code y_An_next c_An_next 1 (some .int) :: rz_tbl) 0 ({ frames := 0, cells := 0, slots := 0, locals := 0 }) := ⟨rz_good wd_550, ⟨_, rfl⟩, wd_46, by decide +kernel, rfl, rfl⟩
