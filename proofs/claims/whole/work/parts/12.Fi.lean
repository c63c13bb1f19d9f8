def C_Fi_isRight : rz_C := fun As μ P => ∃ r : Int32, As = [.int r] ∧ P (some (.int (b2 (¬ r < 0 ∧ ¬ 2 < r)))) μ
def bk_Fi_isRight : Nat → List rz_T := fun b => match b with
  | 0 => [tz_iload 0, tz_if_lt 1, tz_iload 0, tz_iconst 2, tz_icmp_gt 1, tz_iconst 1, tz_goto 2]
  | 1 => [tz_iconst 0, tz_fall 2]
  | 2 => [tz_zret]
  | _ => []
def bp_Fi_isRight : Nat → Nat := fun b => match b with
  | 0 => 0
  | 1 => 13
  | 2 => 14
  | _ => 0
set_option maxRecDepth 100000 in
set_option maxHeartbeats 4000000 in
theorem sd_Fi_isRight (X : rz_X) (G : rz_Cx CL X c_Fi_isRight 1 rz_tbl R_Fi ({ frames := 0, cells := 0, slots := 0, locals := 0 })) : ∀ b, rz_SB SH CL X bp_Fi_isRight (rz_RI SH CL X c_Fi_isRight (fun v => narrow .boolean (.int v) = .int v)) (bk_Fi_isRight b) (bp_Fi_isRight b) := fun b => match b with
  | 0 => (rz_cons (rz_iload_n G d_Fi_isRight_0 rfl) (rz_cons (rz_if_lt G d_Fi_isRight_1 (by decide)) (rz_cons (rz_iload_n G d_Fi_isRight_4 rfl) (rz_cons (rz_iconst G d_Fi_isRight_5 (by decide)) (rz_cons (rz_icmp_gt G d_Fi_isRight_6 (by decide)) (rz_cons (rz_iconst G d_Fi_isRight_9 (by decide)) (rz_cons (rz_goto (npc := 0) G d_Fi_isRight_10 (by decide)) rz_nil)))))))
  | 1 => (rz_cons (rz_iconst G d_Fi_isRight_13 (by decide)) (rz_fall rfl))
  | 2 => (rz_cons (rz_zret (npc := 0) (by rintro v (rfl | rfl) <;> rfl) d_Fi_isRight_14) rz_nil)
  | _ + 3 => rz_nil
set_option maxRecDepth 100000 in
set_option maxHeartbeats 4000000 in
theorem bd_Fi_isRight : ∀ (Y : Nat → rz_K) (P : rz_P), (∀ b ls st μ, rz_ex P Y (bk_Fi_isRight b) ls st μ → Y b ls st μ) → ∀ As μ, C_Fi_isRight As μ P → Y 0 (rz_pad 1 (rz_ent As)) [] μ := by
  intro Y P hY As μ hC
  obtain ⟨r, rfl, hC⟩ := hC
  refine hY 0 _ _ _ ?_
  repeat' (first | (refine And.intro (fun _ => ?_) (fun _ => ?_)) | (refine hY _ _ _ _ ?_))
  all_goals first | exact pT hC (by clear hC hY; simp_all) | exact pF hC (by clear hC hY; simp_all)
theorem m_Fi_isRight (E : rz_E) : rz_MI SH CL E y_Fi_isRight 1 (Cond.code y_Fi_isRight c_Fi_isRight 1 (some .boolean) :: rz_tbl) ({ frames := 0, cells := 0, slots := 0, locals := 0 }) C_Fi_isRight := rz_metI (by decide) rfl (fun X _ G => sd_Fi_isRight X G) bd_Fi_isRight
theorem cd_Fi_isRight : rz_Cd rz_tbl y_Fi_isRight c_Fi_isRight 1 (some .boolean) (Cond.code y_Fi_isRight c_Fi_isRight 1 (some .boolean) :: rz_tbl) 1 ({ frames := 0, cells := 0, slots := 0, locals := 0 }) := ⟨rz_good wd_289, ⟨_, rfl⟩, wd_44, by decide +kernel, rfl, rfl⟩
def C_Fi_has : rz_C := fun As μ P => ∃ f : Int32, As = [.ref 7, .int f] ∧ P (some (.int (b2 (¬ f < 0 ∧ ¬ μ 7 6 ≤ f)))) μ
def bk_Fi_has : Nat → List rz_T := fun b => match b with
  | 0 => [tz_iload 1, tz_if_lt 1, tz_iload 1, tz_aload 0, tz_get SH 2 6, tz_icmp_ge 1, tz_iconst 1, tz_goto 2]
  | 1 => [tz_iconst 0, tz_fall 2]
  | 2 => [tz_zret]
  | _ => []
def bp_Fi_has : Nat → Nat := fun b => match b with
  | 0 => 0
  | 1 => 16
  | 2 => 17
  | _ => 0
set_option maxRecDepth 100000 in
set_option maxHeartbeats 4000000 in
theorem sd_Fi_has (X : rz_X) (G : rz_Cx CL X c_Fi_has 2 rz_tbl R_Fi ({ frames := 0, cells := 0, slots := 0, locals := 0 })) : ∀ b, rz_SB SH CL X bp_Fi_has (rz_RI SH CL X c_Fi_has (fun v => narrow .boolean (.int v) = .int v)) (bk_Fi_has b) (bp_Fi_has b) := fun b => match b with
  | 0 => (rz_cons (rz_iload_n G d_Fi_has_0 rfl) (rz_cons (rz_if_lt G d_Fi_has_1 (by decide)) (rz_cons (rz_iload_n G d_Fi_has_4 rfl) (rz_cons (rz_aload_n G d_Fi_has_5 rfl) (rz_cons (rz_get G rfl in_Fi (by decide) wd_131 d_Fi_has_6) (rz_cons (rz_icmp_ge G d_Fi_has_9 (by decide)) (rz_cons (rz_iconst G d_Fi_has_12 (by decide)) (rz_cons (rz_goto (npc := 0) G d_Fi_has_13 (by decide)) rz_nil))))))))
  | 1 => (rz_cons (rz_iconst G d_Fi_has_16 (by decide)) (rz_fall rfl))
  | 2 => (rz_cons (rz_zret (npc := 0) (by rintro v (rfl | rfl) <;> rfl) d_Fi_has_17) rz_nil)
  | _ + 3 => rz_nil
set_option maxRecDepth 100000 in
set_option maxHeartbeats 4000000 in
theorem bd_Fi_has : ∀ (Y : Nat → rz_K) (P : rz_P), (∀ b ls st μ, rz_ex P Y (bk_Fi_has b) ls st μ → Y b ls st μ) → ∀ As μ, C_Fi_has As μ P → Y 0 (rz_pad 2 (rz_ent As)) [] μ := by
  intro Y P hY As μ hC
  obtain ⟨f, rfl, hC⟩ := hC
  refine hY 0 _ _ _ ?_
  repeat' (first | (refine And.intro (fun _ => ?_) (fun _ => ?_)) | (refine hY _ _ _ _ ?_))
  all_goals first | exact pT hC (by clear hC hY; simp_all) | exact pF hC (by clear hC hY; simp_all)
theorem m_Fi_has (E : rz_E) : rz_MI SH CL E y_Fi_has 2 (Cond.code y_Fi_has c_Fi_has 2 (some .boolean) :: rz_tbl) ({ frames := 0, cells := 0, slots := 0, locals := 0 }) C_Fi_has := rz_metI (by decide) rfl (fun X _ G => sd_Fi_has X G) bd_Fi_has
theorem cd_Fi_has : rz_Cd rz_tbl y_Fi_has c_Fi_has 2 (some .boolean) (Cond.code y_Fi_has c_Fi_has 2 (some .boolean) :: rz_tbl) 1 ({ frames := 0, cells := 0, slots := 0, locals := 0 }) := ⟨rz_good wd_286, ⟨_, rfl⟩, wd_44, by decide +kernel, rfl, rfl⟩
def C_Fi_isDirectory : rz_C := fun As μ P => ∃ f : Int32, As = [.ref 7, .int f] ∧ μ 7 6 ≤ 8 ∧ P (some (.int (b2 (¬ f < 0 ∧ ¬ μ 7 6 ≤ f ∧ μ 10 f.toNatClampNeg = 0)))) μ
def bk_Fi_isDirectory : Nat → List rz_T := fun b => match b with
  | 0 => [tz_aload 0, tz_iload 1, tz_cv SH 1 2 2 C_Fi_has, tz_if_eq 1, tz_aload 0, tz_get SH 2 2, tz_iload 1, tz_iald SH, tz_if_ne 1, tz_iconst 1, tz_goto 2]
  | 1 => [tz_iconst 0, tz_fall 2]
  | 2 => [tz_zret]
  | _ => []
def bp_Fi_isDirectory : Nat → Nat := fun b => match b with
  | 0 => 0
  | 1 => 21
  | 2 => 22
  | _ => 0
set_option maxRecDepth 100000 in
set_option maxHeartbeats 4000000 in
theorem sd_Fi_isDirectory (X : rz_X) (G : rz_Cx CL X c_Fi_isDirectory 2 rz_tbl R_Fi ({ frames := 1, cells := 0, slots := 0, locals := 21 })) : ∀ b, rz_SB SH CL X bp_Fi_isDirectory (rz_RI SH CL X c_Fi_isDirectory (fun v => narrow .boolean (.int v) = .int v)) (bk_Fi_isDirectory b) (bp_Fi_isDirectory b) := fun b => match b with
  | 0 => (rz_cons (rz_aload_n G d_Fi_isDirectory_0 rfl) (rz_cons (rz_iload_n G d_Fi_isDirectory_1 rfl) (rz_cons (rz_cvi G (m_Fi_has X.1) cd_Fi_has wd_283 wd_284 wd_285 rfl rfl (by decide) d_Fi_isDirectory_2) (rz_cons (rz_if_eq G d_Fi_isDirectory_5 (by decide)) (rz_cons (rz_aload_n G d_Fi_isDirectory_8 rfl) (rz_cons (rz_get G rfl in_Fi (by decide) wd_123 d_Fi_isDirectory_9) (rz_cons (rz_iload_n G d_Fi_isDirectory_12 rfl) (rz_cons (rz_iald G d_Fi_isDirectory_13) (rz_cons (rz_if_ne G d_Fi_isDirectory_14 (by decide)) (rz_cons (rz_iconst G d_Fi_isDirectory_17 (by decide)) (rz_cons (rz_goto (npc := 0) G d_Fi_isDirectory_18 (by decide)) rz_nil)))))))))))
  | 1 => (rz_cons (rz_iconst G d_Fi_isDirectory_21 (by decide)) (rz_fall rfl))
  | 2 => (rz_cons (rz_zret (npc := 0) (by rintro v (rfl | rfl) <;> rfl) d_Fi_isDirectory_22) rz_nil)
  | _ + 3 => rz_nil
set_option maxRecDepth 100000 in
set_option maxHeartbeats 4000000 in
theorem bd_Fi_isDirectory : ∀ (Y : Nat → rz_K) (P : rz_P), (∀ b ls st μ, rz_ex P Y (bk_Fi_isDirectory b) ls st μ → Y b ls st μ) → ∀ As μ, C_Fi_isDirectory As μ P → Y 0 (rz_pad 2 (rz_ent As)) [] μ := by
  intro Y P hY As μ hC
  obtain ⟨f, rfl, h8, hC⟩ := hC
  refine hY 0 _ _ _ ⟨f, rfl, And.intro (fun h => ?_) (fun h => And.intro ?_ (And.intro (fun h2 => ?_) (fun h2 => ?_)))⟩
  · exact hY _ _ _ _ (hY _ _ _ _ (pF hC (fun q => b2_eq h ⟨q.1, q.2.1⟩)))
  · have := b2_ne h
    exact vi_lt (m := 8) (Int32.not_lt.mp this.1) (Int32.lt_of_lt_of_le (Int32.not_le.mp this.2) h8)
  · exact hY _ _ _ _ (hY _ _ _ _ (pF hC (fun q => h2 q.2.2)))
  · exact hY _ _ _ _ (pT hC ⟨(b2_ne h).1, (b2_ne h).2, h2⟩)
theorem m_Fi_isDirectory (E : rz_E) : rz_MI SH CL E y_Fi_isDirectory 2 (Cond.code y_Fi_isDirectory c_Fi_isDirectory 2 (some .boolean) :: rz_tbl) ({ frames := 1, cells := 0, slots := 0, locals := 21 }) C_Fi_isDirectory := rz_metI (by decide) rfl (fun X _ G => sd_Fi_isDirectory X G) bd_Fi_isDirectory
theorem cd_Fi_isDirectory : rz_Cd rz_tbl y_Fi_isDirectory c_Fi_isDirectory 2 (some .boolean) (Cond.code y_Fi_isDirectory c_Fi_isDirectory 2 (some .boolean) :: rz_tbl) 1 ({ frames := 1, cells := 0, slots := 0, locals := 21 }) := ⟨rz_good wd_282, ⟨_, rfl⟩, wd_44, by decide +kernel, rfl, rfl⟩
def C_Fi_hasOctet : rz_C := fun As μ P => ∃ f k : Int32, As = [.ref 7, .int f, .int k] ∧ μ 7 6 ≤ 8 ∧ P (some (.int (b2 (¬ f < 0 ∧ ¬ μ 7 6 ≤ f ∧ ¬ k < 0 ∧ ¬ μ 10 f.toNatClampNeg ≤ k)))) μ
def bk_Fi_hasOctet : Nat → List rz_T := fun b => match b with
  | 0 => [tz_iload 1, tz_if_lt 1, tz_iload 1, tz_aload 0, tz_get SH 2 6, tz_icmp_ge 1, tz_iload 2, tz_if_lt 1, tz_iload 2, tz_aload 0, tz_get SH 2 2, tz_iload 1, tz_iald SH, tz_icmp_ge 1, tz_iconst 1, tz_goto 2]
  | 1 => [tz_iconst 0, tz_fall 2]
  | 2 => [tz_zret]
  | _ => []
def bp_Fi_hasOctet : Nat → Nat := fun b => match b with
  | 0 => 0
  | 1 => 30
  | 2 => 31
  | _ => 0
set_option maxRecDepth 100000 in
set_option maxHeartbeats 4000000 in
theorem sd_Fi_hasOctet (X : rz_X) (G : rz_Cx CL X c_Fi_hasOctet 3 rz_tbl R_Fi ({ frames := 0, cells := 0, slots := 0, locals := 0 })) : ∀ b, rz_SB SH CL X bp_Fi_hasOctet (rz_RI SH CL X c_Fi_hasOctet (fun v => narrow .boolean (.int v) = .int v)) (bk_Fi_hasOctet b) (bp_Fi_hasOctet b) := fun b => match b with
  | 0 => (rz_cons (rz_iload_n G d_Fi_hasOctet_0 rfl) (rz_cons (rz_if_lt G d_Fi_hasOctet_1 (by decide)) (rz_cons (rz_iload_n G d_Fi_hasOctet_4 rfl) (rz_cons (rz_aload_n G d_Fi_hasOctet_5 rfl) (rz_cons (rz_get G rfl in_Fi (by decide) wd_131 d_Fi_hasOctet_6) (rz_cons (rz_icmp_ge G d_Fi_hasOctet_9 (by decide)) (rz_cons (rz_iload_n G d_Fi_hasOctet_12 rfl) (rz_cons (rz_if_lt G d_Fi_hasOctet_13 (by decide)) (rz_cons (rz_iload_n G d_Fi_hasOctet_16 rfl) (rz_cons (rz_aload_n G d_Fi_hasOctet_17 rfl) (rz_cons (rz_get G rfl in_Fi (by decide) wd_123 d_Fi_hasOctet_18) (rz_cons (rz_iload_n G d_Fi_hasOctet_21 rfl) (rz_cons (rz_iald G d_Fi_hasOctet_22) (rz_cons (rz_icmp_ge G d_Fi_hasOctet_23 (by decide)) (rz_cons (rz_iconst G d_Fi_hasOctet_26 (by decide)) (rz_cons (rz_goto (npc := 0) G d_Fi_hasOctet_27 (by decide)) rz_nil))))))))))))))))
  | 1 => (rz_cons (rz_iconst G d_Fi_hasOctet_30 (by decide)) (rz_fall rfl))
  | 2 => (rz_cons (rz_zret (npc := 0) (by rintro v (rfl | rfl) <;> rfl) d_Fi_hasOctet_31) rz_nil)
  | _ + 3 => rz_nil
set_option maxRecDepth 100000 in
set_option maxHeartbeats 4000000 in
theorem bd_Fi_hasOctet : ∀ (Y : Nat → rz_K) (P : rz_P), (∀ b ls st μ, rz_ex P Y (bk_Fi_hasOctet b) ls st μ → Y b ls st μ) → ∀ As μ, C_Fi_hasOctet As μ P → Y 0 (rz_pad 3 (rz_ent As)) [] μ := by
  intro Y P hY As μ hC
  obtain ⟨f, k, rfl, h8, hC⟩ := hC
  refine hY 0 _ _ _ (And.intro (fun h => ?_) (fun h0 => And.intro (fun h => ?_) (fun h1 => And.intro (fun h => ?_) (fun h2 => And.intro ?_ (And.intro (fun h => ?_) (fun h3 => ?_))))))
  · exact hY _ _ _ _ (hY _ _ _ _ (pF hC (fun q => q.1 h)))
  · exact hY _ _ _ _ (hY _ _ _ _ (pF hC (fun q => q.2.1 h)))
  · exact hY _ _ _ _ (hY _ _ _ _ (pF hC (fun q => q.2.2.1 h)))
  · exact vi_lt (m := 8) (Int32.not_lt.mp h0) (Int32.lt_of_lt_of_le (Int32.not_le.mp h1) h8)
  · exact hY _ _ _ _ (hY _ _ _ _ (pF hC (fun q => q.2.2.2 h)))
  · exact hY _ _ _ _ (pT hC ⟨h0, h1, h2, h3⟩)
theorem m_Fi_hasOctet (E : rz_E) : rz_MI SH CL E y_Fi_hasOctet 3 (Cond.code y_Fi_hasOctet c_Fi_hasOctet 3 (some .boolean) :: rz_tbl) ({ frames := 0, cells := 0, slots := 0, locals := 0 }) C_Fi_hasOctet := rz_metI (by decide) rfl (fun X _ G => sd_Fi_hasOctet X G) bd_Fi_hasOctet
theorem cd_Fi_hasOctet : rz_Cd rz_tbl y_Fi_hasOctet c_Fi_hasOctet 3 (some .boolean) (Cond.code y_Fi_hasOctet c_Fi_hasOctet 3 (some .boolean) :: rz_tbl) 2 ({ frames := 0, cells := 0, slots := 0, locals := 0 }) := ⟨rz_good wd_489, ⟨_, rfl⟩, wd_44, by decide +kernel, rfl, rfl⟩
def C_Fi_octet : rz_C := fun As μ P => ∃ f k : Int32, As = [.ref 7, .int f, .int k] ∧ μ 7 6 ≤ 8 ∧ (¬ f < 0 ∧ ¬ μ 7 6 ≤ f ∧ ¬ k < 0 ∧ ¬ μ 10 f.toNatClampNeg ≤ k) ∧ ¬ 24 ≤ k ∧ P (some (.int (μ 13 (f * 24 + k).toNatClampNeg))) μ
def bk_Fi_octet : Nat → List rz_T := fun b => match b with
  | 0 => [tz_aload 0, tz_iload 1, tz_iload 2, tz_cv SH 2 2 3 C_Fi_hasOctet, tz_if_eq 1, tz_aload 0, tz_get SH 2 5, tz_iload 1, tz_bipush 24, tz_imul, tz_iload 2, tz_iadd, tz_iald SH, tz_goto 2]
  | 1 => [tz_iconst 0, tz_fall 2]
  | 2 => [tz_iret]
  | _ => []
def bp_Fi_octet : Nat → Nat := fun b => match b with
  | 0 => 0
  | 1 => 23
  | 2 => 24
  | _ => 0
set_option maxRecDepth 100000 in
set_option maxHeartbeats 4000000 in
theorem sd_Fi_octet (X : rz_X) (G : rz_Cx CL X c_Fi_octet 3 rz_tbl R_Fi ({ frames := 1, cells := 0, slots := 0, locals := 22 })) : ∀ b, rz_SB SH CL X bp_Fi_octet (rz_RI SH CL X c_Fi_octet (fun v => narrow .int (.int v) = .int v)) (bk_Fi_octet b) (bp_Fi_octet b) := fun b => match b with
  | 0 => (rz_cons (rz_aload_n G d_Fi_octet_0 rfl) (rz_cons (rz_iload_n G d_Fi_octet_1 rfl) (rz_cons (rz_iload_n G d_Fi_octet_2 rfl) (rz_cons (rz_cvi G (m_Fi_hasOctet X.1) cd_Fi_hasOctet wd_497 wd_487 wd_488 rfl rfl (by decide) d_Fi_octet_3) (rz_cons (rz_if_eq G d_Fi_octet_6 (by decide)) (rz_cons (rz_aload_n G d_Fi_octet_9 rfl) (rz_cons (rz_get G rfl in_Fi (by decide) wd_130 d_Fi_octet_10) (rz_cons (rz_iload_n G d_Fi_octet_13 rfl) (rz_cons (rz_bipush G d_Fi_octet_14 (by decide)) (rz_cons (rz_imul G d_Fi_octet_16) (rz_cons (rz_iload_n G d_Fi_octet_17 rfl) (rz_cons (rz_iadd G d_Fi_octet_18) (rz_cons (rz_iald G d_Fi_octet_19) (rz_cons (rz_goto (npc := 0) G d_Fi_octet_20 (by decide)) rz_nil))))))))))))))
  | 1 => (rz_cons (rz_iconst G d_Fi_octet_23 (by decide)) (rz_fall rfl))
  | 2 => (rz_cons (rz_iret (npc := 0) (fun _ => rfl) d_Fi_octet_24) rz_nil)
  | _ + 3 => rz_nil
set_option maxRecDepth 100000 in
set_option maxHeartbeats 4000000 in
theorem bd_Fi_octet : ∀ (Y : Nat → rz_K) (P : rz_P), (∀ b ls st μ, rz_ex P Y (bk_Fi_octet b) ls st μ → Y b ls st μ) → ∀ As μ, C_Fi_octet As μ P → Y 0 (rz_pad 3 (rz_ent As)) [] μ := by
  intro Y P hY As μ hC
  obtain ⟨f, k, rfl, h8, hh, h24, hC⟩ := hC
  refine hY 0 _ _ _ ⟨f, k, rfl, h8, And.intro (fun h => absurd hh (b2_eq h)) (fun _ => And.intro ?_ (hY _ _ _ _ hC))⟩
  obtain ⟨h0, h1, h2, h3⟩ := hh
  rw [vp_in_iff]
  rw [i_lt] at h0 h2
  rw [i_le] at h1 h8 h24
  have e0 : (0 : Int32).toInt = 0 := rfl
  have e1 : (24 : Int32).toInt = 24 := rfl
  have e8 : (8 : Int32).toInt = 8 := rfl
  have em : (f * 24).toInt = f.toInt * 24 := by rw [i_mul (by rw [e1]; omega) (by rw [e1]; omega), e1]
  rw [i_add (by omega) (by omega)]
  omega
theorem m_Fi_octet (E : rz_E) : rz_MI SH CL E y_Fi_octet 3 (Cond.code y_Fi_octet c_Fi_octet 3 (some .int) :: rz_tbl) ({ frames := 1, cells := 0, slots := 0, locals := 22 }) C_Fi_octet := rz_metI (by decide) rfl (fun X _ G => sd_Fi_octet X G) bd_Fi_octet
theorem cd_Fi_octet : rz_Cd rz_tbl y_Fi_octet c_Fi_octet 3 (some .int) (Cond.code y_Fi_octet c_Fi_octet 3 (some .int) :: rz_tbl) 2 ({ frames := 1, cells := 0, slots := 0, locals := 22 }) := ⟨rz_good wd_496, ⟨_, rfl⟩, wd_44, by decide +kernel, rfl, rfl⟩
def f_put (f k o : Int32) (μ : rz_M) : rz_M := if f * 24 + k < 0 then μ else if 192 ≤ f * 24 + k then μ else rz_up μ 13 (f * 24 + k).toNatClampNeg o
def C_Fi_put : rz_C := fun As μ P => ∃ f k o : Int32, As = [.ref 7, .int f, .int k, .int o] ∧ P none (f_put f k o μ)
def bk_Fi_put : Nat → List rz_T := fun b => match b with
  | 0 => [tz_iload 1, tz_bipush 24, tz_imul, tz_iload 2, tz_iadd, tz_istore 4, tz_iload 4, tz_if_lt 1, tz_iload 4, tz_aload 0, tz_get SH 2 5, tz_alen SH, tz_icmp_ge 1, tz_aload 0, tz_get SH 2 5, tz_iload 4, tz_iload 3, tz_iast SH, tz_fall 1]
  | 1 => [tz_vret]
  | _ => []
def bp_Fi_put : Nat → Nat := fun b => match b with
  | 0 => 0
  | 1 => 31
  | _ => 0
set_option maxRecDepth 100000 in
set_option maxHeartbeats 4000000 in
theorem sd_Fi_put (X : rz_X) (G : rz_Cx CL X c_Fi_put 5 rz_tbl R_Fi ({ frames := 0, cells := 0, slots := 0, locals := 0 })) : ∀ b, rz_SB SH CL X bp_Fi_put (rz_RV SH CL X c_Fi_put) (bk_Fi_put b) (bp_Fi_put b) := fun b => match b with
  | 0 => (rz_cons (rz_iload_n G d_Fi_put_0 rfl) (rz_cons (rz_bipush G d_Fi_put_1 (by decide)) (rz_cons (rz_imul G d_Fi_put_3) (rz_cons (rz_iload_n G d_Fi_put_4 rfl) (rz_cons (rz_iadd G d_Fi_put_5) (rz_cons (rz_istore G d_Fi_put_6 (by decide)) (rz_cons (rz_iload G d_Fi_put_8) (rz_cons (rz_if_lt G d_Fi_put_10 (by decide)) (rz_cons (rz_iload G d_Fi_put_13) (rz_cons (rz_aload_n G d_Fi_put_15 rfl) (rz_cons (rz_get G rfl in_Fi (by decide) wd_130 d_Fi_put_16) (rz_cons (rz_alen G d_Fi_put_19) (rz_cons (rz_icmp_ge G d_Fi_put_20 (by decide)) (rz_cons (rz_aload_n G d_Fi_put_23 rfl) (rz_cons (rz_get G rfl in_Fi (by decide) wd_130 d_Fi_put_24) (rz_cons (rz_iload G d_Fi_put_27) (rz_cons (rz_iload_n G d_Fi_put_29 rfl) (rz_cons (rz_iast G d_Fi_put_30) (rz_fall rfl)))))))))))))))))))
  | 1 => (rz_cons (rz_vret (npc := 0) d_Fi_put_31) rz_nil)
  | _ + 2 => rz_nil
set_option maxRecDepth 100000 in
set_option maxHeartbeats 4000000 in
theorem bd_Fi_put : ∀ (Y : Nat → rz_K) (P : rz_P), (∀ b ls st μ, rz_ex P Y (bk_Fi_put b) ls st μ → Y b ls st μ) → ∀ As μ, C_Fi_put As μ P → Y 0 (rz_pad 5 (rz_ent As)) [] μ := by
  intro Y P hY As μ hC
  obtain ⟨f, k, o, rfl, hC⟩ := hC
  refine hY 0 _ _ _ (And.intro (fun h => hY _ _ _ _ (rzT (P none) h hC)) (fun h => And.intro (fun h2 => hY _ _ _ _ (rzT (P none) h2 (rzF (P none) h hC))) (fun h2 => And.intro ?_ (hY _ _ _ _ (rzF (P none) h2 (rzF (P none) h hC))))))
  exact vi_lt (m := 192) (Int32.not_lt.mp h) (Int32.not_le.mp h2)
theorem m_Fi_put (E : rz_E) : rz_MV SH CL E y_Fi_put 5 (Cond.code y_Fi_put c_Fi_put 5 none :: rz_tbl) ({ frames := 0, cells := 0, slots := 0, locals := 0 }) C_Fi_put := rz_metV (by decide) rfl (fun X _ G => sd_Fi_put X G) bd_Fi_put
theorem cd_Fi_put : rz_Cd rz_tbl y_Fi_put c_Fi_put 5 none (Cond.code y_Fi_put c_Fi_put 5 none :: rz_tbl) 3 ({ frames := 0, cells := 0, slots := 0, locals := 0 }) := ⟨rz_good wd_341, ⟨_, rfl⟩, wd_44, by decide +kernel, rfl, rfl⟩
def f_add (d n s r c : Int32) (μ : rz_M) : rz_M :=
  rz_up (rz_up (rz_up (rz_up (rz_up (rz_up μ 8 (μ 7 6).toNatClampNeg n) 9 (μ 7 6).toNatClampNeg d) 10 (μ 7 6).toNatClampNeg s) 11 (μ 7 6).toNatClampNeg (if s ≤ 0 then 0 else r)) 12 (μ 7 6).toNatClampNeg (if s ≤ 0 then 0 else c)) 7 6 (μ 7 6 + 1)
def C_Fi_add : rz_C := fun As μ P => ∃ d n s r c : Int32, As = [.ref 7, .int d, .int n, .int s, .int r, .int c] ∧ 0 ≤ μ 7 6 ∧ (¬ μ 7 6 < 8 → P (some (.int (-2))) μ) ∧ (μ 7 6 < 8 → P (some (.int (μ 7 6))) (f_add d n s r c μ))
def bk_Fi_add : Nat → List rz_T := fun b => match b with
  | 0 => [tz_aload 0, tz_get SH 2 6, tz_bipush 8, tz_icmp_lt 1, tz_bipush (-2), tz_iret]
  | 1 => [tz_aload 0, tz_get SH 2 0, tz_aload 0, tz_get SH 2 6, tz_iload 2, tz_iast SH, tz_aload 0, tz_get SH 2 1, tz_aload 0, tz_get SH 2 6, tz_iload 1, tz_iast SH, tz_aload 0, tz_get SH 2 2, tz_aload 0, tz_get SH 2 6, tz_iload 3, tz_iast SH, tz_aload 0, tz_get SH 2 3, tz_aload 0, tz_get SH 2 6, tz_iload 3, tz_if_le 2, tz_iload 4, tz_goto 3]
  | 2 => [tz_iconst 0, tz_fall 3]
  | 3 => [tz_iast SH, tz_aload 0, tz_get SH 2 4, tz_aload 0, tz_get SH 2 6, tz_iload 3, tz_if_le 4, tz_iload 5, tz_goto 5]
  | 4 => [tz_iconst 0, tz_fall 5]
  | 5 => [tz_iast SH, tz_aload 0, tz_dup, tz_get SH 2 6, tz_dup_x1, tz_iconst 1, tz_iadd, tz_put SH 2 6, tz_iret]
  | _ => []
def bp_Fi_add : Nat → Nat := fun b => match b with
  | 0 => 0
  | 1 => 12
  | 2 => 59
  | 3 => 60
  | 4 => 78
  | 5 => 79
  | _ => 0
set_option maxRecDepth 100000 in
set_option maxHeartbeats 4000000 in
theorem sd_Fi_add (X : rz_X) (G : rz_Cx CL X c_Fi_add 6 rz_tbl R_Fi ({ frames := 0, cells := 0, slots := 0, locals := 0 })) : ∀ b, rz_SB SH CL X bp_Fi_add (rz_RI SH CL X c_Fi_add (fun v => narrow .int (.int v) = .int v)) (bk_Fi_add b) (bp_Fi_add b) := fun b => match b with
  | 0 => (rz_cons (rz_aload_n G d_Fi_add_0 rfl) (rz_cons (rz_get G rfl in_Fi (by decide) wd_131 d_Fi_add_1) (rz_cons (rz_bipush G d_Fi_add_4 (by decide)) (rz_cons (rz_icmp_lt G d_Fi_add_6 (by decide)) (rz_cons (rz_bipush G d_Fi_add_9 (by decide)) (rz_cons (rz_iret (npc := 0) (fun _ => rfl) d_Fi_add_11) rz_nil))))))
  | 1 => (rz_cons (rz_aload_n G d_Fi_add_12 rfl) (rz_cons (rz_get G rfl in_Fi (by decide) wd_118 d_Fi_add_13) (rz_cons (rz_aload_n G d_Fi_add_16 rfl) (rz_cons (rz_get G rfl in_Fi (by decide) wd_131 d_Fi_add_17) (rz_cons (rz_iload_n G d_Fi_add_20 rfl) (rz_cons (rz_iast G d_Fi_add_21) (rz_cons (rz_aload_n G d_Fi_add_22 rfl) (rz_cons (rz_get G rfl in_Fi (by decide) wd_120 d_Fi_add_23) (rz_cons (rz_aload_n G d_Fi_add_26 rfl) (rz_cons (rz_get G rfl in_Fi (by decide) wd_131 d_Fi_add_27) (rz_cons (rz_iload_n G d_Fi_add_30 rfl) (rz_cons (rz_iast G d_Fi_add_31) (rz_cons (rz_aload_n G d_Fi_add_32 rfl) (rz_cons (rz_get G rfl in_Fi (by decide) wd_123 d_Fi_add_33) (rz_cons (rz_aload_n G d_Fi_add_36 rfl) (rz_cons (rz_get G rfl in_Fi (by decide) wd_131 d_Fi_add_37) (rz_cons (rz_iload_n G d_Fi_add_40 rfl) (rz_cons (rz_iast G d_Fi_add_41) (rz_cons (rz_aload_n G d_Fi_add_42 rfl) (rz_cons (rz_get G rfl in_Fi (by decide) wd_126 d_Fi_add_43) (rz_cons (rz_aload_n G d_Fi_add_46 rfl) (rz_cons (rz_get G rfl in_Fi (by decide) wd_131 d_Fi_add_47) (rz_cons (rz_iload_n G d_Fi_add_50 rfl) (rz_cons (rz_if_le G d_Fi_add_51 (by decide)) (rz_cons (rz_iload G d_Fi_add_54) (rz_cons (rz_goto (npc := 0) G d_Fi_add_56 (by decide)) rz_nil))))))))))))))))))))))))))
  | 2 => (rz_cons (rz_iconst G d_Fi_add_59 (by decide)) (rz_fall rfl))
  | 3 => (rz_cons (rz_iast G d_Fi_add_60) (rz_cons (rz_aload_n G d_Fi_add_61 rfl) (rz_cons (rz_get G rfl in_Fi (by decide) wd_128 d_Fi_add_62) (rz_cons (rz_aload_n G d_Fi_add_65 rfl) (rz_cons (rz_get G rfl in_Fi (by decide) wd_131 d_Fi_add_66) (rz_cons (rz_iload_n G d_Fi_add_69 rfl) (rz_cons (rz_if_le G d_Fi_add_70 (by decide)) (rz_cons (rz_iload G d_Fi_add_73) (rz_cons (rz_goto (npc := 0) G d_Fi_add_75 (by decide)) rz_nil)))))))))
  | 4 => (rz_cons (rz_iconst G d_Fi_add_78 (by decide)) (rz_fall rfl))
  | 5 => (rz_cons (rz_iast G d_Fi_add_79) (rz_cons (rz_aload_n G d_Fi_add_80 rfl) (rz_cons (rz_dup G d_Fi_add_81) (rz_cons (rz_get G rfl in_Fi (by decide) wd_131 d_Fi_add_82) (rz_cons (rz_dup_x1 G d_Fi_add_85) (rz_cons (rz_iconst G d_Fi_add_86 (by decide)) (rz_cons (rz_iadd G d_Fi_add_87) (rz_cons (rz_put G rfl in_Fi ty_Fi tyok_Fi nm_Fi (by decide) rfl (by decide +kernel) wd_131 d_Fi_add_88) (rz_cons (rz_iret (npc := 0) (fun _ => rfl) d_Fi_add_91) rz_nil)))))))))
  | _ + 6 => rz_nil
set_option maxRecDepth 100000 in
set_option maxHeartbeats 4000000 in
theorem bd_Fi_add : ∀ (Y : Nat → rz_K) (P : rz_P), (∀ b ls st μ, rz_ex P Y (bk_Fi_add b) ls st μ → Y b ls st μ) → ∀ As μ, C_Fi_add As μ P → Y 0 (rz_pad 6 (rz_ent As)) [] μ := by
  intro Y P hY As μ hC
  obtain ⟨d, n, s, r, c, rfl, h0, hC1, hC2⟩ := hC
  refine hY 0 _ _ _ (And.intro (fun h => ?_) (fun h => ?_))
  · refine hY _ _ _ _ ?_
    have hv : vp_in (μ 7 6) 8 := vi_lt (m := 8) h0 h
    refine And.intro hv (And.intro hv (And.intro hv (And.intro (fun hs => ?_) (fun hs => ?_))))
    · refine hY _ _ _ _ (hY _ _ _ _ (And.intro hv (And.intro (fun _ => ?_) (fun h => absurd hs h))))
      refine hY _ _ _ _ (hY _ _ _ _ (And.intro hv ?_))
      have := hC2 h
      unfold f_add at this
      rw [if_pos hs, if_pos hs] at this
      exact this
    · refine hY _ _ _ _ (And.intro hv (And.intro (fun h => absurd h hs) (fun _ => ?_)))
      refine hY _ _ _ _ (And.intro hv ?_)
      have := hC2 h
      unfold f_add at this
      rw [if_neg hs, if_neg hs] at this
      exact this
  · exact hC1 h
theorem m_Fi_add (E : rz_E) : rz_MI SH CL E y_Fi_add 6 (Cond.code y_Fi_add c_Fi_add 6 (some .int) :: rz_tbl) ({ frames := 0, cells := 0, slots := 0, locals := 0 }) C_Fi_add := rz_metI (by decide) rfl (fun X _ G => sd_Fi_add X G) bd_Fi_add
theorem cd_Fi_add : rz_Cd rz_tbl y_Fi_add c_Fi_add 6 (some .int) (Cond.code y_Fi_add c_Fi_add 6 (some .int) :: rz_tbl) 5 ({ frames := 0, cells := 0, slots := 0, locals := 0 }) := ⟨rz_good wd_293, ⟨_, rfl⟩, wd_44, by decide +kernel, rfl, rfl⟩
def p_al (r o : Int32) : Prop := r = 0 ∨ (r = 1 ∧ ¬ o = 0)
def C_Fi_allows : rz_C := fun As μ P => ∃ r o : Int32, As = [.int r, .int o] ∧ P (some (.int (b2 (r = 0 ∨ (r = 1 ∧ ¬ o = 0))))) μ
def bk_Fi_allows : Nat → List rz_T := fun b => match b with
  | 0 => [tz_iload 0, tz_if_eq 1, tz_iload 0, tz_iconst 1, tz_icmp_ne 2, tz_iload 1, tz_if_eq 2, tz_fall 1]
  | 1 => [tz_iconst 1, tz_goto 3]
  | 2 => [tz_iconst 0, tz_fall 3]
  | 3 => [tz_zret]
  | _ => []
def bp_Fi_allows : Nat → Nat := fun b => match b with
  | 0 => 0
  | 1 => 13
  | 2 => 17
  | 3 => 18
  | _ => 0
set_option maxRecDepth 100000 in
set_option maxHeartbeats 4000000 in
theorem sd_Fi_allows (X : rz_X) (G : rz_Cx CL X c_Fi_allows 2 rz_tbl R_Fi ({ frames := 0, cells := 0, slots := 0, locals := 0 })) : ∀ b, rz_SB SH CL X bp_Fi_allows (rz_RI SH CL X c_Fi_allows (fun v => narrow .boolean (.int v) = .int v)) (bk_Fi_allows b) (bp_Fi_allows b) := fun b => match b with
  | 0 => (rz_cons (rz_iload_n G d_Fi_allows_0 rfl) (rz_cons (rz_if_eq G d_Fi_allows_1 (by decide)) (rz_cons (rz_iload_n G d_Fi_allows_4 rfl) (rz_cons (rz_iconst G d_Fi_allows_5 (by decide)) (rz_cons (rz_icmp_ne G d_Fi_allows_6 (by decide)) (rz_cons (rz_iload_n G d_Fi_allows_9 rfl) (rz_cons (rz_if_eq G d_Fi_allows_10 (by decide)) (rz_fall rfl))))))))
  | 1 => (rz_cons (rz_iconst G d_Fi_allows_13 (by decide)) (rz_cons (rz_goto (npc := 0) G d_Fi_allows_14 (by decide)) rz_nil))
  | 2 => (rz_cons (rz_iconst G d_Fi_allows_17 (by decide)) (rz_fall rfl))
  | 3 => (rz_cons (rz_zret (npc := 0) (by rintro v (rfl | rfl) <;> rfl) d_Fi_allows_18) rz_nil)
  | _ + 4 => rz_nil
set_option maxRecDepth 100000 in
set_option maxHeartbeats 4000000 in
theorem bd_Fi_allows : ∀ (Y : Nat → rz_K) (P : rz_P), (∀ b ls st μ, rz_ex P Y (bk_Fi_allows b) ls st μ → Y b ls st μ) → ∀ As μ, C_Fi_allows As μ P → Y 0 (rz_pad 2 (rz_ent As)) [] μ := by
  intro Y P hY As μ hC
  obtain ⟨r, o, rfl, hC⟩ := hC
  refine hY 0 _ _ _ ?_
  repeat' (first | (refine And.intro (fun _ => ?_) (fun _ => ?_)) | (refine hY _ _ _ _ ?_))
  all_goals first | exact pT hC (by clear hC hY; simp_all) | exact pF hC (by clear hC hY; simp_all)
theorem m_Fi_allows (E : rz_E) : rz_MI SH CL E y_Fi_allows 2 (Cond.code y_Fi_allows c_Fi_allows 2 (some .boolean) :: rz_tbl) ({ frames := 0, cells := 0, slots := 0, locals := 0 }) C_Fi_allows := rz_metI (by decide) rfl (fun X _ G => sd_Fi_allows X G) bd_Fi_allows
theorem cd_Fi_allows : rz_Cd rz_tbl y_Fi_allows c_Fi_allows 2 (some .boolean) (Cond.code y_Fi_allows c_Fi_allows 2 (some .boolean) :: rz_tbl) 2 ({ frames := 0, cells := 0, slots := 0, locals := 0 }) := ⟨rz_good wd_481, ⟨_, rfl⟩, wd_44, by decide +kernel, rfl, rfl⟩
def C_Fi_mayRead : rz_C := fun As μ P => ∃ f o : Int32, As = [.ref 7, .int f, .int o] ∧ μ 7 6 ≤ 8 ∧ P (some (.int (b2 ((¬ f < 0 ∧ ¬ μ 7 6 ≤ f) ∧ (μ 11 f.toNatClampNeg = 0 ∨ (μ 11 f.toNatClampNeg = 1 ∧ ¬ o = 0)))))) μ
def bk_Fi_mayRead : Nat → List rz_T := fun b => match b with
  | 0 => [tz_aload 0, tz_iload 1, tz_cv SH 1 2 2 C_Fi_has, tz_if_eq 1, tz_aload 0, tz_get SH 2 3, tz_iload 1, tz_iald SH, tz_iload 2, tz_cs 2 2 C_Fi_allows, tz_if_eq 1, tz_iconst 1, tz_goto 2]
  | 1 => [tz_iconst 0, tz_fall 2]
  | 2 => [tz_zret]
  | _ => []
def bp_Fi_mayRead : Nat → Nat := fun b => match b with
  | 0 => 0
  | 1 => 25
  | 2 => 26
  | _ => 0
set_option maxRecDepth 100000 in
set_option maxHeartbeats 4000000 in
theorem sd_Fi_mayRead (X : rz_X) (G : rz_Cx CL X c_Fi_mayRead 3 rz_tbl R_Fi ({ frames := 1, cells := 0, slots := 0, locals := 21 })) : ∀ b, rz_SB SH CL X bp_Fi_mayRead (rz_RI SH CL X c_Fi_mayRead (fun v => narrow .boolean (.int v) = .int v)) (bk_Fi_mayRead b) (bp_Fi_mayRead b) := fun b => match b with
  | 0 => (rz_cons (rz_aload_n G d_Fi_mayRead_0 rfl) (rz_cons (rz_iload_n G d_Fi_mayRead_1 rfl) (rz_cons (rz_cvi G (m_Fi_has X.1) cd_Fi_has wd_283 wd_284 wd_285 rfl rfl (by decide) d_Fi_mayRead_2) (rz_cons (rz_if_eq G d_Fi_mayRead_5 (by decide)) (rz_cons (rz_aload_n G d_Fi_mayRead_8 rfl) (rz_cons (rz_get G rfl in_Fi (by decide) wd_126 d_Fi_mayRead_9) (rz_cons (rz_iload_n G d_Fi_mayRead_12 rfl) (rz_cons (rz_iald G d_Fi_mayRead_13) (rz_cons (rz_iload_n G d_Fi_mayRead_14 rfl) (rz_cons (rz_csi G (m_Fi_allows X.1) cd_Fi_allows wd_479 wd_480 (by decide) d_Fi_mayRead_15) (rz_cons (rz_if_eq G d_Fi_mayRead_18 (by decide)) (rz_cons (rz_iconst G d_Fi_mayRead_21 (by decide)) (rz_cons (rz_goto (npc := 0) G d_Fi_mayRead_22 (by decide)) rz_nil)))))))))))))
  | 1 => (rz_cons (rz_iconst G d_Fi_mayRead_25 (by decide)) (rz_fall rfl))
  | 2 => (rz_cons (rz_zret (npc := 0) (by rintro v (rfl | rfl) <;> rfl) d_Fi_mayRead_26) rz_nil)
  | _ + 3 => rz_nil
set_option maxRecDepth 100000 in
set_option maxHeartbeats 4000000 in
theorem bd_Fi_mayRead : ∀ (Y : Nat → rz_K) (P : rz_P), (∀ b ls st μ, rz_ex P Y (bk_Fi_mayRead b) ls st μ → Y b ls st μ) → ∀ As μ, C_Fi_mayRead As μ P → Y 0 (rz_pad 3 (rz_ent As)) [] μ := by
  intro Y P hY As μ hC
  obtain ⟨f, o, rfl, h8, hC⟩ := hC
  refine hY 0 _ _ _ ⟨f, rfl, And.intro (fun h => ?_) (fun h => And.intro ?_ ⟨_, _, rfl, And.intro (fun h2 => ?_) (fun h2 => ?_)⟩)⟩
  · exact hY _ _ _ _ (hY _ _ _ _ (pF hC (fun q => b2_eq h q.1)))
  · have := b2_ne h
    exact vi_lt (m := 8) (Int32.not_lt.mp this.1) (Int32.lt_of_lt_of_le (Int32.not_le.mp this.2) h8)
  · exact hY _ _ _ _ (hY _ _ _ _ (pF hC (fun q => b2_eq h2 q.2)))
  · exact hY _ _ _ _ (pT hC ⟨b2_ne h, b2_ne h2⟩)
theorem m_Fi_mayRead (E : rz_E) : rz_MI SH CL E y_Fi_mayRead 3 (Cond.code y_Fi_mayRead c_Fi_mayRead 3 (some .boolean) :: rz_tbl) ({ frames := 1, cells := 0, slots := 0, locals := 21 }) C_Fi_mayRead := rz_metI (by decide) rfl (fun X _ G => sd_Fi_mayRead X G) bd_Fi_mayRead
theorem cd_Fi_mayRead : rz_Cd rz_tbl y_Fi_mayRead c_Fi_mayRead 3 (some .boolean) (Cond.code y_Fi_mayRead c_Fi_mayRead 3 (some .boolean) :: rz_tbl) 2 ({ frames := 1, cells := 0, slots := 0, locals := 21 }) := ⟨rz_good wd_478, ⟨_, rfl⟩, wd_44, by decide +kernel, rfl, rfl⟩
def C_Fi_mayChange : rz_C := fun As μ P => ∃ f o : Int32, As = [.ref 7, .int f, .int o] ∧ μ 7 6 ≤ 8 ∧ P (some (.int (b2 ((¬ f < 0 ∧ ¬ μ 7 6 ≤ f) ∧ (μ 12 f.toNatClampNeg = 0 ∨ (μ 12 f.toNatClampNeg = 1 ∧ ¬ o = 0)))))) μ
def bk_Fi_mayChange : Nat → List rz_T := fun b => match b with
  | 0 => [tz_aload 0, tz_iload 1, tz_cv SH 1 2 2 C_Fi_has, tz_if_eq 1, tz_aload 0, tz_get SH 2 4, tz_iload 1, tz_iald SH, tz_iload 2, tz_cs 2 2 C_Fi_allows, tz_if_eq 1, tz_iconst 1, tz_goto 2]
  | 1 => [tz_iconst 0, tz_fall 2]
  | 2 => [tz_zret]
  | _ => []
def bp_Fi_mayChange : Nat → Nat := fun b => match b with
  | 0 => 0
  | 1 => 25
  | 2 => 26
  | _ => 0
set_option maxRecDepth 100000 in
set_option maxHeartbeats 4000000 in
theorem sd_Fi_mayChange (X : rz_X) (G : rz_Cx CL X c_Fi_mayChange 3 rz_tbl R_Fi ({ frames := 1, cells := 0, slots := 0, locals := 21 })) : ∀ b, rz_SB SH CL X bp_Fi_mayChange (rz_RI SH CL X c_Fi_mayChange (fun v => narrow .boolean (.int v) = .int v)) (bk_Fi_mayChange b) (bp_Fi_mayChange b) := fun b => match b with
  | 0 => (rz_cons (rz_aload_n G d_Fi_mayChange_0 rfl) (rz_cons (rz_iload_n G d_Fi_mayChange_1 rfl) (rz_cons (rz_cvi G (m_Fi_has X.1) cd_Fi_has wd_283 wd_284 wd_285 rfl rfl (by decide) d_Fi_mayChange_2) (rz_cons (rz_if_eq G d_Fi_mayChange_5 (by decide)) (rz_cons (rz_aload_n G d_Fi_mayChange_8 rfl) (rz_cons (rz_get G rfl in_Fi (by decide) wd_128 d_Fi_mayChange_9) (rz_cons (rz_iload_n G d_Fi_mayChange_12 rfl) (rz_cons (rz_iald G d_Fi_mayChange_13) (rz_cons (rz_iload_n G d_Fi_mayChange_14 rfl) (rz_cons (rz_csi G (m_Fi_allows X.1) cd_Fi_allows wd_479 wd_480 (by decide) d_Fi_mayChange_15) (rz_cons (rz_if_eq G d_Fi_mayChange_18 (by decide)) (rz_cons (rz_iconst G d_Fi_mayChange_21 (by decide)) (rz_cons (rz_goto (npc := 0) G d_Fi_mayChange_22 (by decide)) rz_nil)))))))))))))
  | 1 => (rz_cons (rz_iconst G d_Fi_mayChange_25 (by decide)) (rz_fall rfl))
  | 2 => (rz_cons (rz_zret (npc := 0) (by rintro v (rfl | rfl) <;> rfl) d_Fi_mayChange_26) rz_nil)
  | _ + 3 => rz_nil
set_option maxRecDepth 100000 in
set_option maxHeartbeats 4000000 in
theorem bd_Fi_mayChange : ∀ (Y : Nat → rz_K) (P : rz_P), (∀ b ls st μ, rz_ex P Y (bk_Fi_mayChange b) ls st μ → Y b ls st μ) → ∀ As μ, C_Fi_mayChange As μ P → Y 0 (rz_pad 3 (rz_ent As)) [] μ := by
  intro Y P hY As μ hC
  obtain ⟨f, o, rfl, h8, hC⟩ := hC
  refine hY 0 _ _ _ ⟨f, rfl, And.intro (fun h => ?_) (fun h => And.intro ?_ ⟨_, _, rfl, And.intro (fun h2 => ?_) (fun h2 => ?_)⟩)⟩
  · exact hY _ _ _ _ (hY _ _ _ _ (pF hC (fun q => b2_eq h q.1)))
  · have := b2_ne h
    exact vi_lt (m := 8) (Int32.not_lt.mp this.1) (Int32.lt_of_lt_of_le (Int32.not_le.mp this.2) h8)
  · exact hY _ _ _ _ (hY _ _ _ _ (pF hC (fun q => b2_eq h2 q.2)))
  · exact hY _ _ _ _ (pT hC ⟨b2_ne h, b2_ne h2⟩)
theorem m_Fi_mayChange (E : rz_E) : rz_MI SH CL E y_Fi_mayChange 3 (Cond.code y_Fi_mayChange c_Fi_mayChange 3 (some .boolean) :: rz_tbl) ({ frames := 1, cells := 0, slots := 0, locals := 21 }) C_Fi_mayChange := rz_metI (by decide) rfl (fun X _ G => sd_Fi_mayChange X G) bd_Fi_mayChange
theorem cd_Fi_mayChange : rz_Cd rz_tbl y_Fi_mayChange c_Fi_mayChange 3 (some .boolean) (Cond.code y_Fi_mayChange c_Fi_mayChange 3 (some .boolean) :: rz_tbl) 2 ({ frames := 1, cells := 0, slots := 0, locals := 21 }) := ⟨rz_good wd_509, ⟨_, rfl⟩, wd_44, by decide +kernel, rfl, rfl⟩
/-- the least f from i on (of at most d) that has the name and the directory; -1 if none -/
def f_find (μ : rz_M) (d n : Int32) : Nat → Nat → Int32
  | 0, _ => -1
  | k + 1, i => if μ 9 i = d ∧ μ 8 i = n then nI i else f_find μ d n k (i + 1)
def C_Fi_find : rz_C := fun As μ P => ∃ (d n : Int32) (c : Nat), As = [.ref 7, .int d, .int n] ∧ μ 7 6 = nI c ∧ 1 ≤ c ∧ c ≤ 8 ∧ P (some (.int (if n = 16128 then 0 else f_find μ d n (c - 1) 1))) μ
def bk_Fi_find : Nat → List rz_T := fun b => match b with
  | 0 => [tz_iload 2, tz_sipush 16128, tz_icmp_ne 1, tz_iconst 0, tz_iret]
  | 1 => [tz_iconst 1, tz_istore 3, tz_fall 2]
  | 2 => [tz_iload 3, tz_aload 0, tz_get SH 2 6, tz_icmp_ge 4, tz_aload 0, tz_get SH 2 1, tz_iload 3, tz_iald SH, tz_iload 1, tz_icmp_ne 3, tz_aload 0, tz_get SH 2 0, tz_iload 3, tz_iald SH, tz_iload 2, tz_icmp_ne 3, tz_iload 3, tz_iret]
  | 3 => [tz_iinc 3 1, tz_goto 2]
  | 4 => [tz_iconst (-1), tz_iret]
  | _ => []
def bp_Fi_find : Nat → Nat := fun b => match b with
  | 0 => 0
  | 1 => 9
  | 2 => 11
  | 3 => 41
  | 4 => 47
  | _ => 0
set_option maxRecDepth 100000 in
set_option maxHeartbeats 4000000 in
theorem sd_Fi_find (X : rz_X) (G : rz_Cx CL X c_Fi_find 4 rz_tbl R_Fi ({ frames := 0, cells := 0, slots := 0, locals := 0 })) : ∀ b, rz_SB SH CL X bp_Fi_find (rz_RI SH CL X c_Fi_find (fun v => narrow .int (.int v) = .int v)) (bk_Fi_find b) (bp_Fi_find b) := fun b => match b with
  | 0 => (rz_cons (rz_iload_n G d_Fi_find_0 rfl) (rz_cons (rz_sipush G d_Fi_find_1 (by decide)) (rz_cons (rz_icmp_ne G d_Fi_find_4 (by decide)) (rz_cons (rz_iconst G d_Fi_find_7 (by decide)) (rz_cons (rz_iret (npc := 0) (fun _ => rfl) d_Fi_find_8) rz_nil)))))
  | 1 => (rz_cons (rz_iconst G d_Fi_find_9 (by decide)) (rz_cons (rz_istore_n G d_Fi_find_10 rfl (by decide)) (rz_fall rfl)))
  | 2 => (rz_cons (rz_iload_n G d_Fi_find_11 rfl) (rz_cons (rz_aload_n G d_Fi_find_12 rfl) (rz_cons (rz_get G rfl in_Fi (by decide) wd_131 d_Fi_find_13) (rz_cons (rz_icmp_ge G d_Fi_find_16 (by decide)) (rz_cons (rz_aload_n G d_Fi_find_19 rfl) (rz_cons (rz_get G rfl in_Fi (by decide) wd_120 d_Fi_find_20) (rz_cons (rz_iload_n G d_Fi_find_23 rfl) (rz_cons (rz_iald G d_Fi_find_24) (rz_cons (rz_iload_n G d_Fi_find_25 rfl) (rz_cons (rz_icmp_ne G d_Fi_find_26 (by decide)) (rz_cons (rz_aload_n G d_Fi_find_29 rfl) (rz_cons (rz_get G rfl in_Fi (by decide) wd_118 d_Fi_find_30) (rz_cons (rz_iload_n G d_Fi_find_33 rfl) (rz_cons (rz_iald G d_Fi_find_34) (rz_cons (rz_iload_n G d_Fi_find_35 rfl) (rz_cons (rz_icmp_ne G d_Fi_find_36 (by decide)) (rz_cons (rz_iload_n G d_Fi_find_39 rfl) (rz_cons (rz_iret (npc := 0) (fun _ => rfl) d_Fi_find_40) rz_nil))))))))))))))))))
  | 3 => (rz_cons (rz_iinc G d_Fi_find_41 (by decide) (by decide)) (rz_cons (rz_goto (npc := 0) G d_Fi_find_44 (by decide)) rz_nil))
  | 4 => (rz_cons (rz_iconst G d_Fi_find_47 (by decide)) (rz_cons (rz_iret (npc := 0) (fun _ => rfl) d_Fi_find_48) rz_nil))
  | _ + 5 => rz_nil
set_option maxRecDepth 100000 in
set_option maxHeartbeats 4000000 in
theorem bd_Fi_find : ∀ (Y : Nat → rz_K) (P : rz_P), (∀ b ls st μ, rz_ex P Y (bk_Fi_find b) ls st μ → Y b ls st μ) → ∀ As μ, C_Fi_find As μ P → Y 0 (rz_pad 4 (rz_ent As)) [] μ := by
  intro Y P hY As μ hC
  obtain ⟨d, n, c, rfl, hc, h1, h8, hC⟩ := hC
  refine hY 0 _ _ _ (And.intro (fun h => ?_) (fun h => ?_))
  · have hC := rzF (fun z => P (some (.int z)) μ) h hC
    have loop : ∀ k i, i + k = c → 1 ≤ i → P (some (.int (f_find μ d n k i))) μ → Y 2 [some (.ref 7), some (.int d), some (.int n), some (.int (nI i))] [] μ := by
      intro k
      induction k with
      | zero =>
        intro i hi h1 hp
        have : i = c := by omega
        subst this
        refine hY 2 _ _ _ (And.intro (fun _ => hY _ _ _ _ hp) (fun h => absurd ?_ h))
        rw [hc]; exact Int32.le_refl _
      | succ k ih =>
        intro i hi h1 hp
        refine hY 2 _ _ _ (And.intro (fun h => absurd h ?_) (fun _ => And.intro (vp_in_nI (by omega) (by omega)) (And.intro (fun h => ?_) (fun h => And.intro (vp_in_nI (by omega) (by omega)) (And.intro (fun h2 => ?_) (fun h2 => ?_))))))
        · rw [hc]; exact nI_ge (by omega) (by omega)
        · rw [nI_clamp (by omega)] at h
          refine hY _ _ _ _ ?_
          have := ih (i + 1) (by omega) (by omega) (rzF (fun z => P (some (.int z)) μ) (fun q => h q.1) hp)
          rw [nI_succ] at this
          exact this
        · rw [nI_clamp (by omega)] at h h2
          refine hY _ _ _ _ ?_
          have := ih (i + 1) (by omega) (by omega) (rzF (fun z => P (some (.int z)) μ) (fun q => h2 q.2) hp)
          rw [nI_succ] at this
          exact this
        · rw [nI_clamp (by omega)] at h h2
          exact rzT (fun z => P (some (.int z)) μ) ⟨h, h2⟩ hp
    refine hY _ _ _ _ ?_
    exact loop (c - 1) 1 (by omega) (by omega) hC
  · have hC := rzT (fun z => P (some (.int z)) μ) h hC
    exact hC
theorem m_Fi_find (E : rz_E) : rz_MI SH CL E y_Fi_find 4 (Cond.code y_Fi_find c_Fi_find 4 (some .int) :: rz_tbl) ({ frames := 0, cells := 0, slots := 0, locals := 0 }) C_Fi_find := rz_metI (by decide) rfl (fun X _ G => sd_Fi_find X G) bd_Fi_find
theorem cd_Fi_find : rz_Cd rz_tbl y_Fi_find c_Fi_find 4 (some .int) (Cond.code y_Fi_find c_Fi_find 4 (some .int) :: rz_tbl) 2 ({ frames := 0, cells := 0, slots := 0, locals := 0 }) := ⟨rz_good wd_457, ⟨_, rfl⟩, wd_44, by decide +kernel, rfl, rfl⟩
