/-! a BLOCK is answered -/
def IFl (μ : rz_M) : Prop := (∃ c : Nat, μ 7 6 = nI c ∧ 1 ≤ c ∧ c ≤ 8) ∧ (∀ i, i < 8 → ∃ z : Nat, z ≤ 24 ∧ μ 10 i = nI z)
def IAn (μ : rz_M) : Prop := ∃ a b : Nat, μ 17 1 = nI a ∧ μ 17 2 = nI b ∧ b ≤ a ∧ a ≤ 26
def ISz (μ : rz_M) : Prop := ∃ z : Nat, 1 ≤ z ∧ z ≤ 32 ∧ μ 1 8 = nI z
def IRp (μ : rz_M) : Prop := ∃ r : Nat, r ≤ 36 ∧ μ 1 5 = nI r
def IA (μ : rz_M) : Prop := IFl μ ∧ JC μ ∧ OCT (μ 2) ∧ IAn μ ∧ ISz μ ∧ IRp μ
def f_rdy (e : Int32) (μ : rz_M) : rz_M := rz_up (f_say (128 + 16 * μ 1 6 + e) 0 (fun _ => 0) μ) 1 5 0
def f_pc (μ : rz_M) : rz_M := f_piece (μ 17 2).toNatClampNeg (min (μ 1 8).toNatClampNeg ((μ 17 1).toNatClampNeg - (μ 17 2).toNatClampNeg)) ((μ 17 1).toNatClampNeg - (μ 17 2).toNatClampNeg) μ
theorem pc_eq {μ : rz_M} {a b z : Nat} (ha : μ 17 1 = nI a) (hb : μ 17 2 = nI b) (hz : μ 1 8 = nI z) (h1 : a < 2147483648) (h2 : b < 2147483648) (h3 : z < 2147483648) : f_piece b (min z (a - b)) (a - b) μ = f_pc μ := by
  unfold f_pc
  rw [nc ha h1, nc hb h2, nc hz h3]
def f_tz (s : Int32) (μ : rz_M) : Int32 × rz_M := if s < 1 then (2, μ) else if s ≤ 32 then (0, f_say 225 1 (fun _ => s) (rz_up μ 1 8 s)) else (2, μ)
def C_Ca_takeSize : rz_C := fun As μ P => ∃ s : Int32, As = [.ref 0, .int s] ∧ PQ P (f_tz s μ)
def bk_Ca_takeSize : Nat → List rz_T := fun b => match b with
  | 0 => [tz_iload 1, tz_iconst 1, tz_icmp_lt 1, tz_iload 1, tz_bipush 32, tz_icmp_le 2, tz_fall 1]
  | 1 => [tz_iconst 2, tz_iret]
  | 2 => [tz_aload 0, tz_get SH 6 0, tz_iload 1, tz_put SH 3 8, tz_aload 0, tz_get SH 6 0, tz_cv SH 0 3 1 C_Li_sendSize, tz_iconst 0, tz_iret]
  | _ => []
def bp_Ca_takeSize : Nat → Nat := fun b => match b with
  | 0 => 0
  | 1 => 11
  | 2 => 13
  | _ => 0
set_option maxRecDepth 100000 in
set_option maxHeartbeats 4000000 in
theorem sd_Ca_takeSize (X : rz_X) (G : rz_Cx CL X c_Ca_takeSize 2 rz_tbl R_Ca ({ frames := 3, cells := 0, slots := 0, locals := 63 })) : ∀ b, rz_SB SH CL X bp_Ca_takeSize (rz_RI SH CL X c_Ca_takeSize (fun v => narrow .int (.int v) = .int v)) (bk_Ca_takeSize b) (bp_Ca_takeSize b) := fun b => match b with
  | 0 => (rz_cons (rz_iload_n G d_Ca_takeSize_0 rfl) (rz_cons (rz_iconst G d_Ca_takeSize_1 (by decide)) (rz_cons (rz_icmp_lt G d_Ca_takeSize_2 (by decide)) (rz_cons (rz_iload_n G d_Ca_takeSize_5 rfl) (rz_cons (rz_bipush G d_Ca_takeSize_6 (by decide)) (rz_cons (rz_icmp_le G d_Ca_takeSize_8 (by decide)) (rz_fall rfl)))))))
  | 1 => (rz_cons (rz_iconst G d_Ca_takeSize_11 (by decide)) (rz_cons (rz_iret (npc := 0) (fun _ => rfl) d_Ca_takeSize_12) rz_nil))
  | 2 => (rz_cons (rz_aload_n G d_Ca_takeSize_13 rfl) (rz_cons (rz_get G rfl in_Ca (by decide) wd_258 d_Ca_takeSize_14) (rz_cons (rz_iload_n G d_Ca_takeSize_17 rfl) (rz_cons (rz_putN G rfl in_Li ty_Li tyok_Li nm_Li (by decide) rfl (by decide +kernel) wn_6 d_Ca_takeSize_18) (rz_cons (rz_aload_n G d_Ca_takeSize_21 rfl) (rz_cons (rz_get G rfl in_Ca (by decide) wd_258 d_Ca_takeSize_22) (rz_cons (rz_cvv G (m_Li_sendSize X.1) cd_Li_sendSize wd_575 wd_576 wd_577 rfl rfl (by decide) d_Ca_takeSize_25) (rz_cons (rz_iconst G d_Ca_takeSize_28 (by decide)) (rz_cons (rz_iret (npc := 0) (fun _ => rfl) d_Ca_takeSize_29) rz_nil)))))))))
  | _ + 3 => rz_nil
set_option maxRecDepth 100000 in
set_option maxHeartbeats 4000000 in
theorem bd_Ca_takeSize : ∀ (Y : Nat → rz_K) (P : rz_P), (∀ b ls st μ, rz_ex P Y (bk_Ca_takeSize b) ls st μ → Y b ls st μ) → ∀ As μ, C_Ca_takeSize As μ P → Y 0 (rz_pad 2 (rz_ent As)) [] μ := by
  intro Y P hY As μ hC
  obtain ⟨s, rfl, hC⟩ := hC
  refine hY 0 _ _ _ (And.intro (fun h => hY 1 _ _ _ (rzT (PQ P) h hC)) (fun h => ?_))
  have hC := rzF (PQ P) h hC
  exact And.intro (fun h => hY 2 _ _ _ (And.intro rfl (rzT (PQ P) h hC))) (fun h => hY 1 _ _ _ (rzF (PQ P) h hC))
theorem m_Ca_takeSize (E : rz_E) : rz_MI SH CL E y_Ca_takeSize 2 (Cond.code y_Ca_takeSize c_Ca_takeSize 2 (some .int) :: rz_tbl) ({ frames := 3, cells := 0, slots := 0, locals := 63 }) C_Ca_takeSize := rz_metI (by decide) rfl (fun X _ G => sd_Ca_takeSize X G) bd_Ca_takeSize
theorem cd_Ca_takeSize : rz_Cd rz_tbl y_Ca_takeSize c_Ca_takeSize 2 (some .int) (Cond.code y_Ca_takeSize c_Ca_takeSize 2 (some .int) :: rz_tbl) 1 ({ frames := 3, cells := 0, slots := 0, locals := 63 }) := ⟨rz_good wd_574, ⟨_, rfl⟩, wd_40, by decide +kernel, rfl, rfl⟩
def f_tS (p : Int32) (μ : rz_M) : Int32 × rz_M :=
  if p = 193 then (if μ 2 2 = 1 then f_tz (μ 2 3) μ else (2, μ)) else
  (if μ 2 2 = 0 then (if p = 192 then (0, f_say (p + 32) 0 (fun _ => 0) (f_resync (f_forget μ))) else (0, f_say (p + 32) 0 (fun _ => 0) (f_forget μ))) else (2, μ))
def C_Ca_takeSupervision : rz_C := fun As μ P => ∃ p : Int32, As = [.ref 0, .int p] ∧ PQ P (f_tS p μ)
def bk_Ca_takeSupervision : Nat → List rz_T := fun b => match b with
  | 0 => [tz_aload 0, tz_get SH 6 0, tz_cv SH 0 3 1 C_Li_infLength, tz_iload 1, tz_sipush 193, tz_icmp_ne 1, tz_iconst 1, tz_goto 2]
  | 1 => [tz_iconst 0, tz_fall 2]
  | 2 => [tz_icmp_eq 3, tz_iconst 2, tz_iret]
  | 3 => [tz_iload 1, tz_sipush 193, tz_icmp_ne 4, tz_aload 0, tz_aload 0, tz_get SH 6 0, tz_iconst 0, tz_cv SH 1 3 2 C_Li_inf, tz_cv SH 1 6 2 C_Ca_takeSize, tz_iret]
  | 4 => [tz_aload 0, tz_get SH 6 1, tz_cv SH 0 5 1 C_Wo_forgetExchange, tz_iload 1, tz_sipush 192, tz_icmp_ne 5, tz_aload 0, tz_get SH 6 0, tz_cv SH 0 3 1 C_Li_resync, tz_fall 5]
  | 5 => [tz_aload 0, tz_get SH 6 0, tz_iload 1, tz_bipush 32, tz_iadd, tz_cv SH 1 3 2 C_Li_sendSupervision, tz_iconst 0, tz_iret]
  | _ => []
def bp_Ca_takeSupervision : Nat → Nat := fun b => match b with
  | 0 => 0
  | 1 => 18
  | 2 => 19
  | 3 => 24
  | 4 => 44
  | 5 => 65
  | _ => 0
set_option maxRecDepth 100000 in
set_option maxHeartbeats 4000000 in
theorem sd_Ca_takeSupervision (X : rz_X) (G : rz_Cx CL X c_Ca_takeSupervision 2 rz_tbl R_Ca ({ frames := 4, cells := 0, slots := 0, locals := 84 })) : ∀ b, rz_SB SH CL X bp_Ca_takeSupervision (rz_RI SH CL X c_Ca_takeSupervision (fun v => narrow .int (.int v) = .int v)) (bk_Ca_takeSupervision b) (bp_Ca_takeSupervision b) := fun b => match b with
  | 0 => (rz_cons (rz_aload_n G d_Ca_takeSupervision_0 rfl) (rz_cons (rz_get G rfl in_Ca (by decide) wd_258 d_Ca_takeSupervision_1) (rz_cons (rz_cvi G (m_Li_infLength X.1) cd_Li_infLength wd_397 wd_370 wd_371 rfl rfl (by decide) d_Ca_takeSupervision_4) (rz_cons (rz_iload_n G d_Ca_takeSupervision_7 rfl) (rz_cons (rz_sipush G d_Ca_takeSupervision_8 (by decide)) (rz_cons (rz_icmp_ne G d_Ca_takeSupervision_11 (by decide)) (rz_cons (rz_iconst G d_Ca_takeSupervision_14 (by decide)) (rz_cons (rz_goto (npc := 0) G d_Ca_takeSupervision_15 (by decide)) rz_nil))))))))
  | 1 => (rz_cons (rz_iconst G d_Ca_takeSupervision_18 (by decide)) (rz_fall rfl))
  | 2 => (rz_cons (rz_icmp_eq G d_Ca_takeSupervision_19 (by decide)) (rz_cons (rz_iconst G d_Ca_takeSupervision_22 (by decide)) (rz_cons (rz_iret (npc := 0) (fun _ => rfl) d_Ca_takeSupervision_23) rz_nil)))
  | 3 => (rz_cons (rz_iload_n G d_Ca_takeSupervision_24 rfl) (rz_cons (rz_sipush G d_Ca_takeSupervision_25 (by decide)) (rz_cons (rz_icmp_ne G d_Ca_takeSupervision_28 (by decide)) (rz_cons (rz_aload_n G d_Ca_takeSupervision_31 rfl) (rz_cons (rz_aload_n G d_Ca_takeSupervision_32 rfl) (rz_cons (rz_get G rfl in_Ca (by decide) wd_258 d_Ca_takeSupervision_33) (rz_cons (rz_iconst G d_Ca_takeSupervision_36 (by decide)) (rz_cons (rz_cvi G (m_Li_inf X.1) cd_Li_inf wd_398 wd_399 wd_400 rfl rfl (by decide) d_Ca_takeSupervision_37) (rz_cons (rz_cvi G (m_Ca_takeSize X.1) cd_Ca_takeSize wd_571 wd_573 wd_17 rfl rfl (by decide) d_Ca_takeSupervision_40) (rz_cons (rz_iret (npc := 0) (fun _ => rfl) d_Ca_takeSupervision_43) rz_nil))))))))))
  | 4 => (rz_cons (rz_aload_n G d_Ca_takeSupervision_44 rfl) (rz_cons (rz_get G rfl in_Ca (by decide) wd_259 d_Ca_takeSupervision_45) (rz_cons (rz_cvv G (m_Wo_forgetExchange X.1) cd_Wo_forgetExchange wd_579 wd_319 wd_320 rfl rfl (by decide) d_Ca_takeSupervision_48) (rz_cons (rz_iload_n G d_Ca_takeSupervision_51 rfl) (rz_cons (rz_sipush G d_Ca_takeSupervision_52 (by decide)) (rz_cons (rz_icmp_ne G d_Ca_takeSupervision_55 (by decide)) (rz_cons (rz_aload_n G d_Ca_takeSupervision_58 rfl) (rz_cons (rz_get G rfl in_Ca (by decide) wd_258 d_Ca_takeSupervision_59) (rz_cons (rz_cvv G (m_Li_resync X.1) cd_Li_resync wd_580 wd_311 wd_312 rfl rfl (by decide) d_Ca_takeSupervision_62) (rz_fall rfl))))))))))
  | 5 => (rz_cons (rz_aload_n G d_Ca_takeSupervision_65 rfl) (rz_cons (rz_get G rfl in_Ca (by decide) wd_258 d_Ca_takeSupervision_66) (rz_cons (rz_iload_n G d_Ca_takeSupervision_69 rfl) (rz_cons (rz_bipush G d_Ca_takeSupervision_70 (by decide)) (rz_cons (rz_iadd G d_Ca_takeSupervision_72) (rz_cons (rz_cvv G (m_Li_sendSupervision X.1) cd_Li_sendSupervision wd_581 wd_582 wd_583 rfl rfl (by decide) d_Ca_takeSupervision_73) (rz_cons (rz_iconst G d_Ca_takeSupervision_76 (by decide)) (rz_cons (rz_iret (npc := 0) (fun _ => rfl) d_Ca_takeSupervision_77) rz_nil))))))))
  | _ + 6 => rz_nil
set_option maxRecDepth 100000 in
set_option maxHeartbeats 4000000 in
theorem bd_Ca_takeSupervision : ∀ (Y : Nat → rz_K) (P : rz_P), (∀ b ls st μ, rz_ex P Y (bk_Ca_takeSupervision b) ls st μ → Y b ls st μ) → ∀ As μ, C_Ca_takeSupervision As μ P → Y 0 (rz_pad 2 (rz_ent As)) [] μ := by
  intro Y P hY As μ hC
  obtain ⟨p, rfl, hC⟩ := hC
  by_cases hp : p = 193
  · have hC := rzT (PQ P) hp hC
    refine hY 0 _ _ _ (And.intro rfl (And.intro (fun h => absurd hp h) (fun _ => ?_)))
    refine hY 2 _ _ _ (And.intro (fun h => ?_) (fun h => rzF (PQ P) h hC))
    have hC := rzT (PQ P) h hC
    exact hY 3 _ _ _ (And.intro (fun h => absurd hp h) (fun _ => ⟨0, rfl, by decide, _, rfl, hC⟩))
  · have hC := rzF (PQ P) hp hC
    refine hY 0 _ _ _ (And.intro rfl (And.intro (fun _ => hY 1 _ _ _ ?_) (fun h => absurd h hp)))
    refine hY 2 _ _ _ (And.intro (fun h => ?_) (fun h => rzF (PQ P) h hC))
    have hC := rzT (PQ P) h hC
    refine hY 3 _ _ _ (And.intro (fun _ => ?_) (fun h => absurd h hp))
    refine hY 4 _ _ _ (And.intro rfl (And.intro (fun h => ?_) (fun h => ?_)))
    · exact hY 5 _ _ _ ⟨_, rfl, rzF (PQ P) h hC⟩
    · exact And.intro rfl (hY 5 _ _ _ ⟨_, rfl, rzT (PQ P) h hC⟩)
theorem m_Ca_takeSupervision (E : rz_E) : rz_MI SH CL E y_Ca_takeSupervision 2 (Cond.code y_Ca_takeSupervision c_Ca_takeSupervision 2 (some .int) :: rz_tbl) ({ frames := 4, cells := 0, slots := 0, locals := 84 }) C_Ca_takeSupervision := rz_metI (by decide) rfl (fun X _ G => sd_Ca_takeSupervision X G) bd_Ca_takeSupervision
theorem cd_Ca_takeSupervision : rz_Cd rz_tbl y_Ca_takeSupervision c_Ca_takeSupervision 2 (some .int) (Cond.code y_Ca_takeSupervision c_Ca_takeSupervision 2 (some .int) :: rz_tbl) 1 ({ frames := 4, cells := 0, slots := 0, locals := 84 }) := ⟨rz_good wd_570, ⟨_, rfl⟩, wd_40, by decide +kernel, rfl, rfl⟩
def f_tR (n : Int32) (μ : rz_M) : Int32 × rz_M :=
  if μ 2 2 = 0 then
    (if n = μ 1 7 ∧ ¬ μ 17 1 - μ 17 2 ≤ 0 then (0, f_pc μ) else if ¬ n = μ 1 7 ∧ ¬ μ 1 5 ≤ 0 then (0, f_again (μ 1 5).toNatClampNeg μ) else (0, f_rdy 0 μ))
  else (2, μ)
def C_Ca_takeReady : rz_C := fun As μ P => ∃ n : Int32, As = [.ref 0, .int n] ∧ IAn μ ∧ ISz μ ∧ IRp μ ∧ PQ P (f_tR n μ)
def bk_Ca_takeReady : Nat → List rz_T := fun b => match b with
  | 0 => [tz_aload 0, tz_get SH 6 0, tz_cv SH 0 3 1 C_Li_infLength, tz_if_eq 1, tz_iconst 2, tz_iret]
  | 1 => [tz_iload 1, tz_aload 0, tz_get SH 6 0, tz_get SH 3 7, tz_icmp_ne 2, tz_aload 0, tz_get SH 6 1, tz_get SH 5 2, tz_cv SH 0 0 1 C_An_left, tz_if_le 2, tz_aload 0, tz_get SH 6 0, tz_aload 0, tz_get SH 6 1, tz_get SH 5 2, tz_cv SH 1 3 4 C_Li_sendPiece, tz_goto 4]
  | 2 => [tz_iload 1, tz_aload 0, tz_get SH 6 0, tz_get SH 3 7, tz_icmp_eq 3, tz_aload 0, tz_get SH 6 0, tz_get SH 3 5, tz_if_le 3, tz_aload 0, tz_get SH 6 0, tz_cv SH 0 3 1 C_Li_sendAgain, tz_goto 4]
  | 3 => [tz_aload 0, tz_get SH 6 0, tz_iconst 0, tz_cv SH 1 3 2 C_Li_sendReady, tz_fall 4]
  | 4 => [tz_iconst 0, tz_iret]
  | _ => []
def bp_Ca_takeReady : Nat → Nat := fun b => match b with
  | 0 => 0
  | 1 => 12
  | 2 => 53
  | 3 => 84
  | 4 => 92
  | _ => 0
set_option maxRecDepth 100000 in
set_option maxHeartbeats 4000000 in
theorem sd_Ca_takeReady (X : rz_X) (G : rz_Cx CL X c_Ca_takeReady 2 rz_tbl R_Ca ({ frames := 3, cells := 0, slots := 0, locals := 66 })) : ∀ b, rz_SB SH CL X bp_Ca_takeReady (rz_RI SH CL X c_Ca_takeReady (fun v => narrow .int (.int v) = .int v)) (bk_Ca_takeReady b) (bp_Ca_takeReady b) := fun b => match b with
  | 0 => (rz_cons (rz_aload_n G d_Ca_takeReady_0 rfl) (rz_cons (rz_get G rfl in_Ca (by decide) wd_258 d_Ca_takeReady_1) (rz_cons (rz_cvi G (m_Li_infLength X.1) cd_Li_infLength wd_397 wd_370 wd_371 rfl rfl (by decide) d_Ca_takeReady_4) (rz_cons (rz_if_eq G d_Ca_takeReady_7 (by decide)) (rz_cons (rz_iconst G d_Ca_takeReady_10 (by decide)) (rz_cons (rz_iret (npc := 0) (fun _ => rfl) d_Ca_takeReady_11) rz_nil))))))
  | 1 => (rz_cons (rz_iload_n G d_Ca_takeReady_12 rfl) (rz_cons (rz_aload_n G d_Ca_takeReady_13 rfl) (rz_cons (rz_get G rfl in_Ca (by decide) wd_258 d_Ca_takeReady_14) (rz_cons (rz_getN G rfl in_Li (by decide) wn_5 d_Ca_takeReady_17) (rz_cons (rz_icmp_ne G d_Ca_takeReady_20 (by decide)) (rz_cons (rz_aload_n G d_Ca_takeReady_23 rfl) (rz_cons (rz_get G rfl in_Ca (by decide) wd_259 d_Ca_takeReady_24) (rz_cons (rz_getN G rfl in_Wo (by decide) wn_31 d_Ca_takeReady_27) (rz_cons (rz_cvi G (m_An_left X.1) cd_An_left wd_562 wd_543 wd_544 rfl rfl (by decide) d_Ca_takeReady_30) (rz_cons (rz_if_le G d_Ca_takeReady_33 (by decide)) (rz_cons (rz_aload_n G d_Ca_takeReady_36 rfl) (rz_cons (rz_get G rfl in_Ca (by decide) wd_258 d_Ca_takeReady_37) (rz_cons (rz_aload_n G d_Ca_takeReady_40 rfl) (rz_cons (rz_get G rfl in_Ca (by decide) wd_259 d_Ca_takeReady_41) (rz_cons (rz_getN G rfl in_Wo (by decide) wn_31 d_Ca_takeReady_44) (rz_cons (rz_cvv G (m_Li_sendPiece X.1) cd_Li_sendPiece wd_538 wd_539 wd_540 rfl rfl (by decide) d_Ca_takeReady_47) (rz_cons (rz_goto (npc := 0) G d_Ca_takeReady_50 (by decide)) rz_nil)))))))))))))))))
  | 2 => (rz_cons (rz_iload_n G d_Ca_takeReady_53 rfl) (rz_cons (rz_aload_n G d_Ca_takeReady_54 rfl) (rz_cons (rz_get G rfl in_Ca (by decide) wd_258 d_Ca_takeReady_55) (rz_cons (rz_getN G rfl in_Li (by decide) wn_5 d_Ca_takeReady_58) (rz_cons (rz_icmp_eq G d_Ca_takeReady_61 (by decide)) (rz_cons (rz_aload_n G d_Ca_takeReady_64 rfl) (rz_cons (rz_get G rfl in_Ca (by decide) wd_258 d_Ca_takeReady_65) (rz_cons (rz_getN G rfl in_Li (by decide) wn_3 d_Ca_takeReady_68) (rz_cons (rz_if_le G d_Ca_takeReady_71 (by decide)) (rz_cons (rz_aload_n G d_Ca_takeReady_74 rfl) (rz_cons (rz_get G rfl in_Ca (by decide) wd_258 d_Ca_takeReady_75) (rz_cons (rz_cvv G (m_Li_sendAgain X.1) cd_Li_sendAgain wd_563 wd_564 wd_565 rfl rfl (by decide) d_Ca_takeReady_78) (rz_cons (rz_goto (npc := 0) G d_Ca_takeReady_81 (by decide)) rz_nil)))))))))))))
  | 3 => (rz_cons (rz_aload_n G d_Ca_takeReady_84 rfl) (rz_cons (rz_get G rfl in_Ca (by decide) wd_258 d_Ca_takeReady_85) (rz_cons (rz_iconst G d_Ca_takeReady_88 (by decide)) (rz_cons (rz_cvv G (m_Li_sendReady X.1) cd_Li_sendReady wd_406 wd_407 wd_408 rfl rfl (by decide) d_Ca_takeReady_89) (rz_fall rfl)))))
  | 4 => (rz_cons (rz_iconst G d_Ca_takeReady_92 (by decide)) (rz_cons (rz_iret (npc := 0) (fun _ => rfl) d_Ca_takeReady_93) rz_nil))
  | _ + 5 => rz_nil
set_option maxRecDepth 100000 in
set_option maxHeartbeats 4000000 in
theorem bd_Ca_takeReady : ∀ (Y : Nat → rz_K) (P : rz_P), (∀ b ls st μ, rz_ex P Y (bk_Ca_takeReady b) ls st μ → Y b ls st μ) → ∀ As μ, C_Ca_takeReady As μ P → Y 0 (rz_pad 2 (rz_ent As)) [] μ := by
  intro Y P hY As μ hC
  obtain ⟨n, rfl, hA, hS, hR, hC⟩ := hC
  refine hY 0 _ _ _ (And.intro rfl (And.intro (fun h => ?_) (fun h => rzF (PQ P) h hC)))
  have hC := rzT (PQ P) h hC
  have two : ¬ (n = μ 1 7 ∧ ¬ μ 17 1 - μ 17 2 ≤ 0) → Y 2 [some (.ref 0), some (.int n)] [] μ := by
    intro hn
    have hC := rzF (PQ P) hn hC
    refine hY 2 _ _ _ (And.intro (fun h => ?_) (fun h => And.intro (fun h2 => ?_) (fun h2 => ?_)))
    · exact hY 3 _ _ _ ⟨_, rfl, hY 4 _ _ _ (rzF (PQ P) (fun q => q.1 h) hC)⟩
    · exact hY 3 _ _ _ ⟨_, rfl, hY 4 _ _ _ (rzF (PQ P) (fun q => q.2 h2) hC)⟩
    · have hC := rzT (PQ P) ⟨h, h2⟩ hC
      obtain ⟨r, hr, e⟩ := hR
      rw [nc e (by omega)] at hC
      exact ⟨r, rfl, e, hr, hY 4 _ _ _ hC⟩
  refine hY 1 _ _ _ (And.intro (fun h => two (fun q => h q.1)) (fun h => And.intro rfl (And.intro (fun h2 => two (fun q => q.2 h2)) (fun h2 => ?_))))
  obtain ⟨a, b, ha, hb, hba, h26⟩ := hA
  obtain ⟨z, z1, z32, hz⟩ := hS
  refine ⟨a, b, z, rfl, ha, hb, hz, hba, h26, z32, ?_⟩
  rw [pc_eq ha hb hz (by omega) (by omega) (by omega)]
  exact hY 4 _ _ _ (rzT (PQ P) ⟨h, h2⟩ hC)
theorem m_Ca_takeReady (E : rz_E) : rz_MI SH CL E y_Ca_takeReady 2 (Cond.code y_Ca_takeReady c_Ca_takeReady 2 (some .int) :: rz_tbl) ({ frames := 3, cells := 0, slots := 0, locals := 66 }) C_Ca_takeReady := rz_metI (by decide) rfl (fun X _ G => sd_Ca_takeReady X G) bd_Ca_takeReady
theorem cd_Ca_takeReady : rz_Cd rz_tbl y_Ca_takeReady c_Ca_takeReady 2 (some .int) (Cond.code y_Ca_takeReady c_Ca_takeReady 2 (some .int) :: rz_tbl) 1 ({ frames := 3, cells := 0, slots := 0, locals := 66 }) := ⟨rz_good wd_561, ⟨_, rfl⟩, wd_40, by decide +kernel, rfl, rfl⟩
def f_cc (ρ : rz_M) : rz_M := rz_up ρ 0 4 (ρ 0 4 + 1)
def f_tI1 (m : Int32) (ν : rz_M) : rz_M := if m = 0 then (if ¬ (f_perf ν).1 = -1 then f_pc (f_cc (f_conc (f_perf ν).1 (f_perf ν).2)) else f_pd (f_perf ν).2) else f_rdy 0 ν
def f_tI0 (μ : rz_M) : rz_M := f_adds (μ 2 2).toNatClampNeg 0 (rz_up (rz_up (rz_up μ 1 6 (μ 1 6 ^^^ 1)) 17 1 0) 17 2 0)
def f_tI (n m : Int32) (μ : rz_M) : Int32 × rz_M := if n = μ 1 6 then (0, f_tI1 m (f_tI0 μ)) else (2, μ)
theorem f_conc_17 {s : Int32} {μ : rz_M} {a : Nat} (h : μ 17 1 = nI a) (ha : a ≤ 24) : f_conc s μ 17 1 = nI (a + 2) ∧ f_conc s μ 17 2 = μ 17 2 := by
  unfold f_conc
  have e1 : (f_An_add (s >>> ((8 : Int32) &&& 31)) (rz_up (rz_up μ 15 1 0) 15 2 0)) = _ := f_An_nI (a := a) (show rz_up (rz_up μ 15 1 0) 15 2 0 17 1 = nI a from h) (by omega)
  rw [e1, f_An_nI (a := a + 1) rfl (by omega)]
  exact ⟨rfl, rfl⟩
theorem f_conc_ne {s : Int32} {μ : rz_M} {k : Nat} (h15 : k ≠ 15) (h17 : k ≠ 17) (h18 : k ≠ 18) : f_conc s μ k = μ k := by
  unfold f_conc f_An_add
  repeat' split
  all_goals simp only [rz_up_k h15, rz_up_k h17, rz_up_k h18]
def C_Ca_takeInformation : rz_C := fun As μ P => ∃ (n m : Int32) (l : Nat), As = [.ref 0, .int n, .int m] ∧ IA μ ∧ μ 2 2 = nI l ∧ l ≤ 32 ∧ PQ P (f_tI n m μ)
def bk_Ca_takeInformation : Nat → List rz_T := fun b => match b with
  | 0 => [tz_iload 1, tz_aload 0, tz_get SH 6 0, tz_get SH 3 6, tz_icmp_eq 1, tz_iconst 2, tz_iret]
  | 1 => [tz_aload 0, tz_get SH 6 0, tz_dup, tz_get SH 3 6, tz_iconst 1, tz_ixor, tz_put SH 3 6, tz_aload 0, tz_get SH 6 1, tz_get SH 5 2, tz_cv SH 0 0 1 C_An_clear, tz_iconst 0, tz_istore 3, tz_fall 2]
  | 2 => [tz_iload 3, tz_aload 0, tz_get SH 6 0, tz_cv SH 0 3 1 C_Li_infLength, tz_icmp_ge 3, tz_aload 0, tz_get SH 6 1, tz_get SH 5 1, tz_aload 0, tz_get SH 6 0, tz_iload 3, tz_cv SH 1 3 2 C_Li_inf, tz_cv SH 1 1 2 C_Co_add, tz_iinc 3 1, tz_goto 2]
  | 3 => [tz_iload 2, tz_if_eq 4, tz_aload 0, tz_get SH 6 0, tz_iconst 0, tz_cv SH 1 3 2 C_Li_sendReady, tz_iconst 0, tz_iret]
  | 4 => [tz_aload 0, tz_get SH 6 1, tz_cv SH 0 5 1 C_Wo_perform, tz_istore 3, tz_iload 3, tz_iconst (-1), tz_icmp_ne 5, tz_aload 0, tz_cv SH 0 6 1 C_Ca_powerDown, tz_goto 6]
  | 5 => [tz_aload 0, tz_get SH 6 1, tz_iload 3, tz_cv SH 1 5 2 C_Wo_conclude, tz_aload 0, tz_dup, tz_get SH 6 4, tz_iconst 1, tz_iadd, tz_put SH 6 4, tz_aload 0, tz_get SH 6 0, tz_aload 0, tz_get SH 6 1, tz_get SH 5 2, tz_cv SH 1 3 4 C_Li_sendPiece, tz_fall 6]
  | 6 => [tz_iconst 0, tz_iret]
  | _ => []
def bp_Ca_takeInformation : Nat → Nat := fun b => match b with
  | 0 => 0
  | 1 => 13
  | 2 => 38
  | 3 => 73
  | 4 => 87
  | 5 => 107
  | 6 => 139
  | _ => 0
set_option maxRecDepth 100000 in
set_option maxHeartbeats 4000000 in
theorem sd_Ca_takeInformation (X : rz_X) (G : rz_Cx CL X c_Ca_takeInformation 4 rz_tbl R_Ca ({ frames := 4, cells := 0, slots := 0, locals := 89 })) : ∀ b, rz_SB SH CL X bp_Ca_takeInformation (rz_RI SH CL X c_Ca_takeInformation (fun v => narrow .int (.int v) = .int v)) (bk_Ca_takeInformation b) (bp_Ca_takeInformation b) := fun b => match b with
  | 0 => (rz_cons (rz_iload_n G d_Ca_takeInformation_0 rfl) (rz_cons (rz_aload_n G d_Ca_takeInformation_1 rfl) (rz_cons (rz_get G rfl in_Ca (by decide) wd_258 d_Ca_takeInformation_2) (rz_cons (rz_getN G rfl in_Li (by decide) wn_4 d_Ca_takeInformation_5) (rz_cons (rz_icmp_eq G d_Ca_takeInformation_8 (by decide)) (rz_cons (rz_iconst G d_Ca_takeInformation_11 (by decide)) (rz_cons (rz_iret (npc := 0) (fun _ => rfl) d_Ca_takeInformation_12) rz_nil)))))))
  | 1 => (rz_cons (rz_aload_n G d_Ca_takeInformation_13 rfl) (rz_cons (rz_get G rfl in_Ca (by decide) wd_258 d_Ca_takeInformation_14) (rz_cons (rz_dup G d_Ca_takeInformation_17) (rz_cons (rz_getN G rfl in_Li (by decide) wn_4 d_Ca_takeInformation_18) (rz_cons (rz_iconst G d_Ca_takeInformation_21 (by decide)) (rz_cons (rz_ixor G d_Ca_takeInformation_22) (rz_cons (rz_putN G rfl in_Li ty_Li tyok_Li nm_Li (by decide) rfl (by decide +kernel) wn_4 d_Ca_takeInformation_23) (rz_cons (rz_aload_n G d_Ca_takeInformation_26 rfl) (rz_cons (rz_get G rfl in_Ca (by decide) wd_259 d_Ca_takeInformation_27) (rz_cons (rz_getN G rfl in_Wo (by decide) wn_31 d_Ca_takeInformation_30) (rz_cons (rz_cvv G (m_An_clear X.1) cd_An_clear wd_396 wd_327 wd_328 rfl rfl (by decide) d_Ca_takeInformation_33) (rz_cons (rz_iconst G d_Ca_takeInformation_36 (by decide)) (rz_cons (rz_istore_n G d_Ca_takeInformation_37 rfl (by decide)) (rz_fall rfl))))))))))))))
  | 2 => (rz_cons (rz_iload_n G d_Ca_takeInformation_38 rfl) (rz_cons (rz_aload_n G d_Ca_takeInformation_39 rfl) (rz_cons (rz_get G rfl in_Ca (by decide) wd_258 d_Ca_takeInformation_40) (rz_cons (rz_cvi G (m_Li_infLength X.1) cd_Li_infLength wd_397 wd_370 wd_371 rfl rfl (by decide) d_Ca_takeInformation_43) (rz_cons (rz_icmp_ge G d_Ca_takeInformation_46 (by decide)) (rz_cons (rz_aload_n G d_Ca_takeInformation_49 rfl) (rz_cons (rz_get G rfl in_Ca (by decide) wd_259 d_Ca_takeInformation_50) (rz_cons (rz_getN G rfl in_Wo (by decide) wn_30 d_Ca_takeInformation_53) (rz_cons (rz_aload_n G d_Ca_takeInformation_56 rfl) (rz_cons (rz_get G rfl in_Ca (by decide) wd_258 d_Ca_takeInformation_57) (rz_cons (rz_iload_n G d_Ca_takeInformation_60 rfl) (rz_cons (rz_cvi G (m_Li_inf X.1) cd_Li_inf wd_398 wd_399 wd_400 rfl rfl (by decide) d_Ca_takeInformation_61) (rz_cons (rz_cvv G (m_Co_add X.1) cd_Co_add wd_402 wd_403 wd_404 rfl rfl (by decide) d_Ca_takeInformation_64) (rz_cons (rz_iinc G d_Ca_takeInformation_67 (by decide) (by decide)) (rz_cons (rz_goto (npc := 0) G d_Ca_takeInformation_70 (by decide)) rz_nil)))))))))))))))
  | 3 => (rz_cons (rz_iload_n G d_Ca_takeInformation_73 rfl) (rz_cons (rz_if_eq G d_Ca_takeInformation_74 (by decide)) (rz_cons (rz_aload_n G d_Ca_takeInformation_77 rfl) (rz_cons (rz_get G rfl in_Ca (by decide) wd_258 d_Ca_takeInformation_78) (rz_cons (rz_iconst G d_Ca_takeInformation_81 (by decide)) (rz_cons (rz_cvv G (m_Li_sendReady X.1) cd_Li_sendReady wd_406 wd_407 wd_408 rfl rfl (by decide) d_Ca_takeInformation_82) (rz_cons (rz_iconst G d_Ca_takeInformation_85 (by decide)) (rz_cons (rz_iret (npc := 0) (fun _ => rfl) d_Ca_takeInformation_86) rz_nil))))))))
  | 4 => (rz_cons (rz_aload_n G d_Ca_takeInformation_87 rfl) (rz_cons (rz_get G rfl in_Ca (by decide) wd_259 d_Ca_takeInformation_88) (rz_cons (rz_cvi G (m_Wo_perform X.1) cd_Wo_perform wd_418 wd_419 wd_420 rfl rfl (by decide) d_Ca_takeInformation_91) (rz_cons (rz_istore_n G d_Ca_takeInformation_94 rfl (by decide)) (rz_cons (rz_iload_n G d_Ca_takeInformation_95 rfl) (rz_cons (rz_iconst G d_Ca_takeInformation_96 (by decide)) (rz_cons (rz_icmp_ne G d_Ca_takeInformation_97 (by decide)) (rz_cons (rz_aload_n G d_Ca_takeInformation_100 rfl) (rz_cons (rz_cvv G (m_Ca_powerDown X.1) cd_Ca_powerDown wd_302 wd_304 wd_0 rfl rfl (by decide) d_Ca_takeInformation_101) (rz_cons (rz_goto (npc := 0) G d_Ca_takeInformation_104 (by decide)) rz_nil))))))))))
  | 5 => (rz_cons (rz_aload_n G d_Ca_takeInformation_107 rfl) (rz_cons (rz_get G rfl in_Ca (by decide) wd_259 d_Ca_takeInformation_108) (rz_cons (rz_iload_n G d_Ca_takeInformation_111 rfl) (rz_cons (rz_cvv G (m_Wo_conclude X.1) cd_Wo_conclude wd_534 wd_535 wd_536 rfl rfl (by decide) d_Ca_takeInformation_112) (rz_cons (rz_aload_n G d_Ca_takeInformation_115 rfl) (rz_cons (rz_dup G d_Ca_takeInformation_116) (rz_cons (rz_get G rfl in_Ca (by decide) wd_262 d_Ca_takeInformation_117) (rz_cons (rz_iconst G d_Ca_takeInformation_120 (by decide)) (rz_cons (rz_iadd G d_Ca_takeInformation_121) (rz_cons (rz_put G rfl in_Ca ty_Ca tyok_Ca nm_Ca (by decide) rfl (by decide +kernel) wd_262 d_Ca_takeInformation_122) (rz_cons (rz_aload_n G d_Ca_takeInformation_125 rfl) (rz_cons (rz_get G rfl in_Ca (by decide) wd_258 d_Ca_takeInformation_126) (rz_cons (rz_aload_n G d_Ca_takeInformation_129 rfl) (rz_cons (rz_get G rfl in_Ca (by decide) wd_259 d_Ca_takeInformation_130) (rz_cons (rz_getN G rfl in_Wo (by decide) wn_31 d_Ca_takeInformation_133) (rz_cons (rz_cvv G (m_Li_sendPiece X.1) cd_Li_sendPiece wd_538 wd_539 wd_540 rfl rfl (by decide) d_Ca_takeInformation_136) (rz_fall rfl)))))))))))))))))
  | 6 => (rz_cons (rz_iconst G d_Ca_takeInformation_139 (by decide)) (rz_cons (rz_iret (npc := 0) (fun _ => rfl) d_Ca_takeInformation_140) rz_nil))
  | _ + 7 => rz_nil
set_option maxRecDepth 100000 in
set_option maxHeartbeats 4000000 in
theorem bd_Ca_takeInformation : ∀ (Y : Nat → rz_K) (P : rz_P), (∀ b ls st μ, rz_ex P Y (bk_Ca_takeInformation b) ls st μ → Y b ls st μ) → ∀ As μ, C_Ca_takeInformation As μ P → Y 0 (rz_pad 4 (rz_ent As)) [] μ := by
  intro Y P hY As μ hC
  obtain ⟨n, m, l, rfl, ⟨hF, hJ, hO, hA, hS, hR⟩, hl, hl32, hC⟩ := hC
  refine hY 0 _ _ _ (And.intro (fun h => ?_) (fun h => rzF (PQ P) h hC))
  have hC := rzT (PQ P) h hC
  have three : ∀ ν : rz_M, ν = f_tI0 μ → Y 3 [some (.ref 0), some (.int n), some (.int m), some (.int (nI l))] [] ν := by
    intro ν hν
    have k2 : ∀ k, k ≠ 15 → k ≠ 16 → k ≠ 1 → k ≠ 17 → ν k = μ k := by
      intro k h15 h16 h1 h17
      rw [hν]; unfold f_tI0
      rw [f_adds_ne _ _ _ h15 h16, rz_up_k h17, rz_up_k h17, rz_up_k h1]
    have k17 : ν 17 1 = 0 ∧ ν 17 2 = 0 := by
      rw [hν]; unfold f_tI0
      rw [f_adds_ne _ _ _ (by decide) (by decide)]
      exact ⟨rfl, rfl⟩
    have k18 : ν 1 8 = μ 1 8 := by
      rw [hν]; unfold f_tI0
      rw [f_adds_ne _ _ _ (by decide) (by decide)]
      rfl
    have hJ2 : JC ν := by
      rw [hν]; unfold f_tI0
      exact JC_adds _ _ _ hJ hO
    rw [← hν] at hC
    refine hY 3 _ _ _ (And.intro (fun h => ?_) (fun h => ?_))
    · have hC : PQ P (0, f_tI1 m ν) := hC
      unfold f_tI1 at hC
      rw [if_pos h] at hC
      have hIW : IW ν := by
        refine ⟨?_, ?_, ?_, k17.1, hJ2.2⟩
        · rw [k2 7 (by decide) (by decide) (by decide) (by decide)]; exact hF.1
        · rw [k2 10 (by decide) (by decide) (by decide) (by decide)]; exact hF.2
        · obtain ⟨mm, h40, e⟩ := hJ2.1
          rw [e]; exact nI_le (b := 40) h40 (by omega)
      obtain ⟨⟨a, ha24, ha⟩, h172⟩ := f_perf_17 hIW
      refine hY 4 _ _ _ ⟨rfl, hIW, And.intro (fun h => ?_) (fun h => ?_)⟩
      · rw [if_pos h] at hC
        obtain ⟨c1, c2⟩ := f_conc_17 (s := (f_perf ν).1) ha ha24
        have c3 : f_conc (f_perf ν).1 (f_perf ν).2 1 = ν 1 := by
          rw [f_conc_ne (by decide) (by decide) (by decide), f_perf_ne (by decide) (by decide) (by decide) (by decide) (by decide) (by decide) (by decide)]
        obtain ⟨z, z1, z32, hz⟩ := hS
        have d1 : f_cc (f_conc (f_perf ν).1 (f_perf ν).2) 17 1 = nI (a + 2) := c1
        have d2 : f_cc (f_conc (f_perf ν).1 (f_perf ν).2) 17 2 = nI 0 := by
          show f_conc (f_perf ν).1 (f_perf ν).2 17 2 = nI 0
          rw [c2, h172, k17.2]; rfl
        have d3 : f_cc (f_conc (f_perf ν).1 (f_perf ν).2) 1 8 = nI z := by
          show f_conc (f_perf ν).1 (f_perf ν).2 1 8 = nI z
          rw [c3, k18, hz]
        refine hY 5 _ _ _ ⟨_, a, rfl, ha, ha24, ⟨a + 2, 0, z, rfl, d1, d2, d3, by omega, by omega, z32, ?_⟩⟩
        have e9 := pc_eq d1 d2 d3 (by omega) (by omega) (by omega)
        rw [← e9] at hC
        exact hY 6 _ _ _ hC
      · rw [if_neg (fun q => q h)] at hC
        exact And.intro rfl (hY 6 _ _ _ hC)
    · have hC : PQ P (0, f_tI1 m ν) := hC
      unfold f_tI1 at hC
      rw [if_neg h] at hC
      exact ⟨_, rfl, hC⟩
  have loop : ∀ (d i : Nat) (ν : rz_M), i + d = l → ν 2 = μ 2 → JC ν → f_adds d i ν = f_tI0 μ → Y 2 [some (.ref 0), some (.int n), some (.int m), some (.int (nI i))] [] ν := by
    intro d
    induction d with
    | zero =>
      intro i ν hi h2 hj he
      have : i = l := by omega
      subst this
      refine hY 2 _ _ _ (And.intro rfl (And.intro (fun _ => three ν he) (fun h => absurd ?_ h)))
      show ν 2 2 ≤ nI i
      rw [h2, hl]; exact Int32.le_refl _
    | succ d ih =>
      intro i ν hi h2 hj he
      refine hY 2 _ _ _ (And.intro rfl (And.intro (fun (h : ν 2 2 ≤ nI i) => absurd h ?_) (fun _ => ⟨i, rfl, by omega, _, rfl, ?_, ?_⟩)))
      · rw [h2, hl]; exact nI_ge (by omega) (by omega)
      · obtain ⟨mm, h40, e⟩ := hj.1
        rw [e]; exact nI_pos' (by omega)
      · have := ih (i + 1) (f_Co_add (ν 2 (3 + i)) ν) (by omega) (by rw [f_Co_add_ne (by decide) (by decide)]; exact h2) (JC_add hj (by rw [h2]; exact hO _)) he
        rw [nI_succ] at this
        exact this
  refine hY 1 _ _ _ (And.intro rfl (loop l 0 _ (by omega) rfl hJ ?_))
  unfold f_tI0
  rw [nc hl (by omega)]
theorem m_Ca_takeInformation (E : rz_E) : rz_MI SH CL E y_Ca_takeInformation 4 (Cond.code y_Ca_takeInformation c_Ca_takeInformation 4 (some .int) :: rz_tbl) ({ frames := 4, cells := 0, slots := 0, locals := 89 }) C_Ca_takeInformation := rz_metI (by decide) rfl (fun X _ G => sd_Ca_takeInformation X G) bd_Ca_takeInformation
theorem cd_Ca_takeInformation : rz_Cd rz_tbl y_Ca_takeInformation c_Ca_takeInformation 4 (some .int) (Cond.code y_Ca_takeInformation c_Ca_takeInformation 4 (some .int) :: rz_tbl) 2 ({ frames := 4, cells := 0, slots := 0, locals := 89 }) := ⟨rz_good wd_395, ⟨_, rfl⟩, wd_40, by decide +kernel, rfl, rfl⟩
def f_dsp (μ : rz_M) : Int32 × rz_M :=
  if μ 2 1 = 0 ∨ μ 2 1 = 32 ∨ μ 2 1 = 64 ∨ μ 2 1 = 96 then f_tI ((μ 2 1 >>> ((6 : Int32) &&& 31)) &&& 1) (if μ 2 1 &&& 32 = 0 then 0 else 1) μ
  else if μ 2 1 = 128 ∨ μ 2 1 = 129 ∨ μ 2 1 = 130 ∨ μ 2 1 = 144 ∨ μ 2 1 = 145 ∨ μ 2 1 = 146 then f_tR ((μ 2 1 >>> ((4 : Int32) &&& 31)) &&& 1) μ
  else if μ 2 1 = 192 ∨ μ 2 1 = 193 ∨ μ 2 1 = 194 then f_tS (μ 2 1) μ
  else (2, μ)
def f_an1 (r : Int32 × rz_M) : rz_M := rz_up (if r.1 = 0 then r.2 else f_rdy r.1 r.2) 1 1 0
def f_ans (n : Nat) (μ : rz_M) : rz_M := if ¬ v_wrong n μ = 0 then f_an1 (v_wrong n μ, μ) else f_an1 (f_dsp μ)
def C_Ca_answerBlock : rz_C := fun As μ P => ∃ n : Nat, As = [.ref 0] ∧ μ 1 1 = nI n ∧ n ≤ 36 ∧ IA μ ∧ P none (f_ans n μ)
def bk_Ca_answerBlock : Nat → List rz_T := fun b => match b with
  | 0 => [tz_aload 0, tz_get SH 6 0, tz_cv SH 0 3 1 C_Li_wrong, tz_istore 1, tz_iload 1, tz_if_ne 7, tz_aload 0, tz_get SH 6 0, tz_cv SH 0 3 1 C_Li_pcb, tz_istore 2, tz_iload 2, tz_sw [(0, 1), (32, 1), (64, 1), (96, 1), (128, 4), (129, 4), (130, 4), (144, 4), (145, 4), (146, 4), (192, 5), (193, 5), (194, 5)] 6]
  | 1 => [tz_aload 0, tz_iload 2, tz_bipush 6, tz_ishr, tz_iconst 1, tz_iand, tz_iload 2, tz_bipush 32, tz_iand, tz_if_eq 2, tz_iconst 1, tz_goto 3]
  | 2 => [tz_iconst 0, tz_fall 3]
  | 3 => [tz_cv SH 2 6 4 C_Ca_takeInformation, tz_istore 1, tz_goto 7]
  | 4 => [tz_aload 0, tz_iload 2, tz_iconst 4, tz_ishr, tz_iconst 1, tz_iand, tz_cv SH 1 6 2 C_Ca_takeReady, tz_istore 1, tz_goto 7]
  | 5 => [tz_aload 0, tz_iload 2, tz_cv SH 1 6 2 C_Ca_takeSupervision, tz_istore 1, tz_goto 7]
  | 6 => [tz_iconst 2, tz_istore 1, tz_fall 7]
  | 7 => [tz_iload 1, tz_if_eq 8, tz_aload 0, tz_get SH 6 0, tz_iload 1, tz_cv SH 1 3 2 C_Li_sendReady, tz_fall 8]
  | 8 => [tz_aload 0, tz_get SH 6 0, tz_iconst 0, tz_put SH 3 1, tz_vret]
  | _ => []
def bp_Ca_answerBlock : Nat → Nat := fun b => match b with
  | 0 => 0
  | 1 => 136
  | 2 => 154
  | 3 => 155
  | 4 => 162
  | 5 => 175
  | 6 => 184
  | 7 => 186
  | 8 => 198
  | _ => 0
set_option maxRecDepth 100000 in
set_option maxHeartbeats 4000000 in
theorem sd_Ca_answerBlock (X : rz_X) (G : rz_Cx CL X c_Ca_answerBlock 3 rz_tbl R_Ca ({ frames := 5, cells := 0, slots := 0, locals := 112 })) : ∀ b, rz_SB SH CL X bp_Ca_answerBlock (rz_RV SH CL X c_Ca_answerBlock) (bk_Ca_answerBlock b) (bp_Ca_answerBlock b) := fun b => match b with
  | 0 => (rz_cons (rz_aload_n G d_Ca_answerBlock_0 rfl) (rz_cons (rz_get G rfl in_Ca (by decide) wd_258 d_Ca_answerBlock_1) (rz_cons (rz_cvi G (m_Li_wrong X.1) cd_Li_wrong wd_377 wd_378 wd_379 rfl rfl (by decide) d_Ca_answerBlock_4) (rz_cons (rz_istore_n G d_Ca_answerBlock_7 rfl (by decide)) (rz_cons (rz_iload_n G d_Ca_answerBlock_8 rfl) (rz_cons (rz_if_ne G d_Ca_answerBlock_9 (by decide)) (rz_cons (rz_aload_n G d_Ca_answerBlock_12 rfl) (rz_cons (rz_get G rfl in_Ca (by decide) wd_258 d_Ca_answerBlock_13) (rz_cons (rz_cvi G (m_Li_pcb X.1) cd_Li_pcb wd_388 wd_389 wd_390 rfl rfl (by decide) d_Ca_answerBlock_16) (rz_cons (rz_istore_n G d_Ca_answerBlock_19 rfl (by decide)) (rz_cons (rz_iload_n G d_Ca_answerBlock_20 rfl) (rz_cons (rz_lookup (npc := 0) G d_Ca_answerBlock_21 (by decide) (by decide +kernel) (by decide)) rz_nil))))))))))))
  | 1 => (rz_cons (rz_aload_n G d_Ca_answerBlock_136 rfl) (rz_cons (rz_iload_n G d_Ca_answerBlock_137 rfl) (rz_cons (rz_bipush G d_Ca_answerBlock_138 (by decide)) (rz_cons (rz_ishr G d_Ca_answerBlock_140) (rz_cons (rz_iconst G d_Ca_answerBlock_141 (by decide)) (rz_cons (rz_iand G d_Ca_answerBlock_142) (rz_cons (rz_iload_n G d_Ca_answerBlock_143 rfl) (rz_cons (rz_bipush G d_Ca_answerBlock_144 (by decide)) (rz_cons (rz_iand G d_Ca_answerBlock_146) (rz_cons (rz_if_eq G d_Ca_answerBlock_147 (by decide)) (rz_cons (rz_iconst G d_Ca_answerBlock_150 (by decide)) (rz_cons (rz_goto (npc := 0) G d_Ca_answerBlock_151 (by decide)) rz_nil))))))))))))
  | 2 => (rz_cons (rz_iconst G d_Ca_answerBlock_154 (by decide)) (rz_fall rfl))
  | 3 => (rz_cons (rz_cvi G (m_Ca_takeInformation X.1) cd_Ca_takeInformation wd_392 wd_394 wd_3 rfl rfl (by decide) d_Ca_answerBlock_155) (rz_cons (rz_istore_n G d_Ca_answerBlock_158 rfl (by decide)) (rz_cons (rz_goto (npc := 0) G d_Ca_answerBlock_159 (by decide)) rz_nil)))
  | 4 => (rz_cons (rz_aload_n G d_Ca_answerBlock_162 rfl) (rz_cons (rz_iload_n G d_Ca_answerBlock_163 rfl) (rz_cons (rz_iconst G d_Ca_answerBlock_164 (by decide)) (rz_cons (rz_ishr G d_Ca_answerBlock_165) (rz_cons (rz_iconst G d_Ca_answerBlock_166 (by decide)) (rz_cons (rz_iand G d_Ca_answerBlock_167) (rz_cons (rz_cvi G (m_Ca_takeReady X.1) cd_Ca_takeReady wd_558 wd_560 wd_15 rfl rfl (by decide) d_Ca_answerBlock_168) (rz_cons (rz_istore_n G d_Ca_answerBlock_171 rfl (by decide)) (rz_cons (rz_goto (npc := 0) G d_Ca_answerBlock_172 (by decide)) rz_nil)))))))))
  | 5 => (rz_cons (rz_aload_n G d_Ca_answerBlock_175 rfl) (rz_cons (rz_iload_n G d_Ca_answerBlock_176 rfl) (rz_cons (rz_cvi G (m_Ca_takeSupervision X.1) cd_Ca_takeSupervision wd_567 wd_569 wd_16 rfl rfl (by decide) d_Ca_answerBlock_177) (rz_cons (rz_istore_n G d_Ca_answerBlock_180 rfl (by decide)) (rz_cons (rz_goto (npc := 0) G d_Ca_answerBlock_181 (by decide)) rz_nil)))))
  | 6 => (rz_cons (rz_iconst G d_Ca_answerBlock_184 (by decide)) (rz_cons (rz_istore_n G d_Ca_answerBlock_185 rfl (by decide)) (rz_fall rfl)))
  | 7 => (rz_cons (rz_iload_n G d_Ca_answerBlock_186 rfl) (rz_cons (rz_if_eq G d_Ca_answerBlock_187 (by decide)) (rz_cons (rz_aload_n G d_Ca_answerBlock_190 rfl) (rz_cons (rz_get G rfl in_Ca (by decide) wd_258 d_Ca_answerBlock_191) (rz_cons (rz_iload_n G d_Ca_answerBlock_194 rfl) (rz_cons (rz_cvv G (m_Li_sendReady X.1) cd_Li_sendReady wd_406 wd_407 wd_408 rfl rfl (by decide) d_Ca_answerBlock_195) (rz_fall rfl)))))))
  | 8 => (rz_cons (rz_aload_n G d_Ca_answerBlock_198 rfl) (rz_cons (rz_get G rfl in_Ca (by decide) wd_258 d_Ca_answerBlock_199) (rz_cons (rz_iconst G d_Ca_answerBlock_202 (by decide)) (rz_cons (rz_putN G rfl in_Li ty_Li tyok_Li nm_Li (by decide) rfl (by decide +kernel) wn_0 d_Ca_answerBlock_203) (rz_cons (rz_vret (npc := 0) d_Ca_answerBlock_206) rz_nil)))))
  | _ + 9 => rz_nil
set_option maxRecDepth 100000 in
set_option maxHeartbeats 4000000 in
theorem bd_Ca_answerBlock : ∀ (Y : Nat → rz_K) (P : rz_P), (∀ b ls st μ, rz_ex P Y (bk_Ca_answerBlock b) ls st μ → Y b ls st μ) → ∀ As μ, C_Ca_answerBlock As μ P → Y 0 (rz_pad 3 (rz_ent As)) [] μ := by
  intro Y P hY As μ hC
  obtain ⟨n, rfl, hn, h36, hI, hC⟩ := hC
  have fin : ∀ (w : Int32) (x : Option Value) (ν : rz_M), P none (f_an1 (w, ν)) → Y 7 [some (.ref 0), some (.int w), x] [] ν := by
    intro w x ν hp
    unfold f_an1 at hp
    refine hY 7 _ _ _ (And.intro (fun h => ?_) (fun h => ?_))
    · rw [if_pos h] at hp
      exact hY 8 _ _ _ hp
    · rw [if_neg h] at hp
      exact ⟨_, rfl, hY 8 _ _ _ hp⟩
  refine hY 0 _ _ _ ⟨n, rfl, hn, h36, And.intro (fun h => fin _ _ _ (rzT (P none) h hC)) (fun h => ?_)⟩
  have hC := rzN (P none) h hC
  obtain ⟨o, ho255, ho⟩ := hI.2.2.1 2
  have ho32 : o ≤ 32 := by
    have : ¬ ¬ μ 2 2 ≤ 32 := by
      intro q
      unfold v_wrong at h
      rw [if_pos q] at h
      exact absurd h (by decide)
    have : μ 2 2 ≤ 32 := Decidable.not_not.mp this
    rw [ho] at this
    exact (nI_leI (b := 32) (by omega) (by omega)).mp this
  have tI : (μ 2 1 = 0 ∨ μ 2 1 = 32 ∨ μ 2 1 = 64 ∨ μ 2 1 = 96) → Y 1 [some (.ref 0), some (.int (v_wrong n μ)), some (.int (μ 2 1))] [] μ := by
    intro hq
    unfold f_dsp at hC
    rw [if_pos hq] at hC
    refine hY 1 _ _ _ (And.intro (fun h => hY 2 _ _ _ (hY 3 _ _ _ ⟨_, _, o, rfl, hI, ho, ho32, ?_⟩)) (fun h => hY 3 _ _ _ ⟨_, _, o, rfl, hI, ho, ho32, ?_⟩))
    · rw [if_pos h] at hC
      exact fin _ _ _ hC
    · rw [if_neg h] at hC
      exact fin _ _ _ hC
  have tR : ¬ (μ 2 1 = 0 ∨ μ 2 1 = 32 ∨ μ 2 1 = 64 ∨ μ 2 1 = 96) → (μ 2 1 = 128 ∨ μ 2 1 = 129 ∨ μ 2 1 = 130 ∨ μ 2 1 = 144 ∨ μ 2 1 = 145 ∨ μ 2 1 = 146) → Y 4 [some (.ref 0), some (.int (v_wrong n μ)), some (.int (μ 2 1))] [] μ := by
    intro h1 hq
    unfold f_dsp at hC
    rw [if_neg h1, if_pos hq] at hC
    exact hY 4 _ _ _ ⟨_, rfl, hI.2.2.2.1, hI.2.2.2.2.1, hI.2.2.2.2.2, fin _ _ _ hC⟩
  have tS : ¬ (μ 2 1 = 0 ∨ μ 2 1 = 32 ∨ μ 2 1 = 64 ∨ μ 2 1 = 96) → ¬ (μ 2 1 = 128 ∨ μ 2 1 = 129 ∨ μ 2 1 = 130 ∨ μ 2 1 = 144 ∨ μ 2 1 = 145 ∨ μ 2 1 = 146) → (μ 2 1 = 192 ∨ μ 2 1 = 193 ∨ μ 2 1 = 194) → Y 5 [some (.ref 0), some (.int (v_wrong n μ)), some (.int (μ 2 1))] [] μ := by
    intro h1 h2 hq
    unfold f_dsp at hC
    rw [if_neg h1, if_neg h2, if_pos hq] at hC
    exact hY 5 _ _ _ ⟨_, rfl, fin _ _ _ hC⟩
  refine And.intro rfl ?_
  refine And.intro (fun h => tI (Or.inl h)) (fun a1 => ?_)
  refine And.intro (fun h => tI (Or.inr (Or.inl h))) (fun a2 => ?_)
  refine And.intro (fun h => tI (Or.inr (Or.inr (Or.inl h)))) (fun a3 => ?_)
  refine And.intro (fun h => tI (Or.inr (Or.inr (Or.inr h)))) (fun a4 => ?_)
  have n1 : ¬ (μ 2 1 = 0 ∨ μ 2 1 = 32 ∨ μ 2 1 = 64 ∨ μ 2 1 = 96) := by
    rintro (q | q | q | q)
    · exact a1 q
    · exact a2 q
    · exact a3 q
    · exact a4 q
  refine And.intro (fun h => tR n1 (Or.inl h)) (fun b1 => ?_)
  refine And.intro (fun h => tR n1 (Or.inr (Or.inl h))) (fun b2 => ?_)
  refine And.intro (fun h => tR n1 (Or.inr (Or.inr (Or.inl h)))) (fun b3 => ?_)
  refine And.intro (fun h => tR n1 (Or.inr (Or.inr (Or.inr (Or.inl h))))) (fun b4 => ?_)
  refine And.intro (fun h => tR n1 (Or.inr (Or.inr (Or.inr (Or.inr (Or.inl h)))))) (fun b5 => ?_)
  refine And.intro (fun h => tR n1 (Or.inr (Or.inr (Or.inr (Or.inr (Or.inr h)))))) (fun b6 => ?_)
  have n2 : ¬ (μ 2 1 = 128 ∨ μ 2 1 = 129 ∨ μ 2 1 = 130 ∨ μ 2 1 = 144 ∨ μ 2 1 = 145 ∨ μ 2 1 = 146) := by
    rintro (q | q | q | q | q | q)
    · exact b1 q
    · exact b2 q
    · exact b3 q
    · exact b4 q
    · exact b5 q
    · exact b6 q
  refine And.intro (fun h => tS n1 n2 (Or.inl h)) (fun c1 => ?_)
  refine And.intro (fun h => tS n1 n2 (Or.inr (Or.inl h))) (fun c2 => ?_)
  refine And.intro (fun h => tS n1 n2 (Or.inr (Or.inr h))) (fun c3 => ?_)
  have n3 : ¬ (μ 2 1 = 192 ∨ μ 2 1 = 193 ∨ μ 2 1 = 194) := by
    rintro (q | q | q)
    · exact c1 q
    · exact c2 q
    · exact c3 q
  unfold f_dsp at hC
  rw [if_neg n1, if_neg n2, if_neg n3] at hC
  exact hY 6 _ _ _ (fin _ _ _ hC)
theorem m_Ca_answerBlock (E : rz_E) : rz_MV SH CL E y_Ca_answerBlock 3 (Cond.code y_Ca_answerBlock c_Ca_answerBlock 3 none :: rz_tbl) ({ frames := 5, cells := 0, slots := 0, locals := 112 }) C_Ca_answerBlock := rz_metV (by decide) rfl (fun X _ G => sd_Ca_answerBlock X G) bd_Ca_answerBlock
theorem cd_Ca_answerBlock : rz_Cd rz_tbl y_Ca_answerBlock c_Ca_answerBlock 3 none (Cond.code y_Ca_answerBlock c_Ca_answerBlock 3 none :: rz_tbl) 0 ({ frames := 5, cells := 0, slots := 0, locals := 112 }) := ⟨rz_good wd_376, ⟨_, rfl⟩, wd_40, by decide +kernel, rfl, rfl⟩
/-- an OCTET comes -/
def f_tk (x : Int32) (μ : rz_M) : rz_M := rz_up (rz_up μ 1 1 (nI ((μ 1 1).toNatClampNeg + 1))) 2 (μ 1 1).toNatClampNeg x
abbrev p_wh (μ : rz_M) : Prop := ¬ μ 1 1 < 3 ∧ (¬ μ 2 2 ≤ 32 ∨ μ 1 1 = 3 + μ 2 2 + 1)
def f_oct (x : Int32) (μ : rz_M) : rz_M := if p_wh (f_tk x μ) then f_ans ((μ 1 1).toNatClampNeg + 1) (f_tk x μ) else f_tk x μ
/-- what an OCTET needs -/
def IO1 (x : Int32) (μ : rz_M) : Prop := (∃ n : Nat, n < 36 ∧ μ 1 1 = nI n) ∧ (p_wh (f_tk x μ) → IA (f_tk x μ))
def f_fd (w : Int64) : Nat → Nat → rz_M → rz_M
  | 0, _, μ => μ
  | d + 1, i, μ => if μ 0 3 = 0 then μ else f_fd w d (i + 1) (f_oct (v_oct w (nI i)) μ)
def OK_fd (w : Int64) : Nat → Nat → rz_M → Prop
  | 0, _, _ => True
  | d + 1, i, μ => μ 0 3 = 0 ∨ (IO1 (v_oct w (nI i)) μ ∧ OK_fd w d (i + 1) (f_oct (v_oct w (nI i)) μ))
def f_feed (w : Int64) (n : Int32) (μ : rz_M) : Int32 × rz_M := if n < 1 then (-1, μ) else if n ≤ 8 then (if ¬ μ 0 3 = 0 then (f_fd w n.toNatClampNeg 0 μ 1 1, f_fd w n.toNatClampNeg 0 μ) else (-3, μ)) else (-1, μ)
def C_Ca_feed : rz_C := fun As μ P => ∃ (w : Int64) (n : Int32), As = [.ref 0, .long w, .int n] ∧ (¬ n < 1 → n ≤ 8 → ¬ μ 0 3 = 0 → OK_fd w n.toNatClampNeg 0 μ) ∧ PQ P (f_feed w n μ)
def bk_Ca_feed : Nat → List rz_T := fun b => match b with
  | 0 => [tz_iload 3, tz_iconst 1, tz_icmp_lt 1, tz_iload 3, tz_bipush 8, tz_icmp_le 2, tz_fall 1]
  | 1 => [tz_iconst (-1), tz_iret]
  | 2 => [tz_aload 0, tz_get SH 6 3, tz_if_ne 3, tz_bipush (-3), tz_iret]
  | 3 => [tz_iconst 0, tz_istore 4, tz_fall 4]
  | 4 => [tz_iload 4, tz_iload 3, tz_icmp_ge 6, tz_aload 0, tz_get SH 6 3, tz_if_eq 6, tz_aload 0, tz_get SH 6 0, tz_lload 1, tz_iload 4, tz_cs 2 3 C_Ca_octetOf, tz_cv SH 1 3 2 C_Li_take, tz_aload 0, tz_get SH 6 0, tz_cv SH 0 3 1 C_Li_isWhole, tz_if_eq 5, tz_aload 0, tz_cv SH 0 6 3 C_Ca_answerBlock, tz_fall 5]
  | 5 => [tz_iinc 4 1, tz_goto 4]
  | 6 => [tz_aload 0, tz_get SH 6 0, tz_get SH 3 1, tz_iret]
  | _ => []
def bp_Ca_feed : Nat → Nat := fun b => match b with
  | 0 => 0
  | 1 => 11
  | 2 => 13
  | 3 => 23
  | 4 => 26
  | 5 => 66
  | 6 => 72
  | _ => 0
set_option maxRecDepth 100000 in
set_option maxHeartbeats 4000000 in
theorem sd_Ca_feed (X : rz_X) (G : rz_Cx CL X c_Ca_feed 5 rz_tbl R_Ca ({ frames := 6, cells := 0, slots := 0, locals := 134 })) : ∀ b, rz_SB SH CL X bp_Ca_feed (rz_RI SH CL X c_Ca_feed (fun v => narrow .int (.int v) = .int v)) (bk_Ca_feed b) (bp_Ca_feed b) := fun b => match b with
  | 0 => (rz_cons (rz_iload_n G d_Ca_feed_0 rfl) (rz_cons (rz_iconst G d_Ca_feed_1 (by decide)) (rz_cons (rz_icmp_lt G d_Ca_feed_2 (by decide)) (rz_cons (rz_iload_n G d_Ca_feed_5 rfl) (rz_cons (rz_bipush G d_Ca_feed_6 (by decide)) (rz_cons (rz_icmp_le G d_Ca_feed_8 (by decide)) (rz_fall rfl)))))))
  | 1 => (rz_cons (rz_iconst G d_Ca_feed_11 (by decide)) (rz_cons (rz_iret (npc := 0) (fun _ => rfl) d_Ca_feed_12) rz_nil))
  | 2 => (rz_cons (rz_aload_n G d_Ca_feed_13 rfl) (rz_cons (rz_get G rfl in_Ca (by decide) wd_261 d_Ca_feed_14) (rz_cons (rz_if_ne G d_Ca_feed_17 (by decide)) (rz_cons (rz_bipush G d_Ca_feed_20 (by decide)) (rz_cons (rz_iret (npc := 0) (fun _ => rfl) d_Ca_feed_22) rz_nil)))))
  | 3 => (rz_cons (rz_iconst G d_Ca_feed_23 (by decide)) (rz_cons (rz_istore G d_Ca_feed_24 (by decide)) (rz_fall rfl)))
  | 4 => (rz_cons (rz_iload G d_Ca_feed_26) (rz_cons (rz_iload_n G d_Ca_feed_28 rfl) (rz_cons (rz_icmp_ge G d_Ca_feed_29 (by decide)) (rz_cons (rz_aload_n G d_Ca_feed_32 rfl) (rz_cons (rz_get G rfl in_Ca (by decide) wd_261 d_Ca_feed_33) (rz_cons (rz_if_eq G d_Ca_feed_36 (by decide)) (rz_cons (rz_aload_n G d_Ca_feed_39 rfl) (rz_cons (rz_get G rfl in_Ca (by decide) wd_258 d_Ca_feed_40) (rz_cons (rz_lload_n G d_Ca_feed_43 rfl) (rz_cons (rz_iload G d_Ca_feed_44) (rz_cons (rz_csi G (m_Ca_octetOf X.1) cd_Ca_octetOf wd_354 wd_355 (by decide) d_Ca_feed_46) (rz_cons (rz_cvv G (m_Li_take X.1) cd_Li_take wd_357 wd_358 wd_359 rfl rfl (by decide) d_Ca_feed_49) (rz_cons (rz_aload_n G d_Ca_feed_52 rfl) (rz_cons (rz_get G rfl in_Ca (by decide) wd_258 d_Ca_feed_53) (rz_cons (rz_cvi G (m_Li_isWhole X.1) cd_Li_isWhole wd_361 wd_362 wd_363 rfl rfl (by decide) d_Ca_feed_56) (rz_cons (rz_if_eq G d_Ca_feed_59 (by decide)) (rz_cons (rz_aload_n G d_Ca_feed_62 rfl) (rz_cons (rz_cvv G (m_Ca_answerBlock X.1) cd_Ca_answerBlock wd_373 wd_375 wd_2 rfl rfl (by decide) d_Ca_feed_63) (rz_fall rfl)))))))))))))))))))
  | 5 => (rz_cons (rz_iinc G d_Ca_feed_66 (by decide) (by decide)) (rz_cons (rz_goto (npc := 0) G d_Ca_feed_69 (by decide)) rz_nil))
  | 6 => (rz_cons (rz_aload_n G d_Ca_feed_72 rfl) (rz_cons (rz_get G rfl in_Ca (by decide) wd_258 d_Ca_feed_73) (rz_cons (rz_getN G rfl in_Li (by decide) wn_0 d_Ca_feed_76) (rz_cons (rz_iret (npc := 0) (fun _ => rfl) d_Ca_feed_79) rz_nil))))
  | _ + 7 => rz_nil
set_option maxRecDepth 100000 in
set_option maxHeartbeats 4000000 in
theorem bd_Ca_feed : ∀ (Y : Nat → rz_K) (P : rz_P), (∀ b ls st μ, rz_ex P Y (bk_Ca_feed b) ls st μ → Y b ls st μ) → ∀ As μ, C_Ca_feed As μ P → Y 0 (rz_pad 5 (rz_ent As)) [] μ := by
  intro Y P hY As μ hC
  obtain ⟨w, n, rfl, hok, hC⟩ := hC
  refine hY 0 _ _ _ (And.intro (fun h => hY 1 _ _ _ (rzT (PQ P) h hC)) (fun h1 => ?_))
  have hC := rzF (PQ P) h1 hC
  refine And.intro (fun h8 => ?_) (fun h => hY 1 _ _ _ (rzF (PQ P) h hC))
  have hC := rzT (PQ P) h8 hC
  refine hY 2 _ _ _ (And.intro (fun h3 => ?_) (fun h => rzN (PQ P) h hC))
  have hC := rzT (PQ P) h3 hC
  have hok := hok h1 h8 h3
  obtain ⟨nn, hn31, hn⟩ := nI_of (x := n) (fun q => h1 (Int32.lt_trans q (by decide)))
  have hn8 : nn ≤ 8 := by rw [hn] at h8; exact (nI_leI (b := 8) hn31 (by omega)).mp h8
  rw [nc hn hn31] at hok hC
  have loop : ∀ (d i : Nat) (ν : rz_M), i + d = nn → OK_fd w d i ν → PQ P (f_fd w d i ν 1 1, f_fd w d i ν) → Y 4 [some (.ref 0), some (.long w), none, some (.int n), some (.int (nI i))] [] ν := by
    intro d
    induction d with
    | zero =>
      intro i ν hi _ hp
      have : i = nn := by omega
      subst this
      refine hY 4 _ _ _ (And.intro (fun _ => hY 6 _ _ _ hp) (fun h => absurd ?_ h))
      rw [hn]; exact Int32.le_refl _
    | succ d ih =>
      intro i ν hi hk hp
      refine hY 4 _ _ _ (And.intro (fun h => absurd h ?_) (fun _ => And.intro (fun h => ?_) (fun h => ?_)))
      · rw [hn]; exact nI_ge (by omega) (by omega)
      · unfold f_fd at hp
        rw [if_pos h] at hp
        exact hY 6 _ _ _ hp
      · unfold f_fd at hp
        rw [if_neg h] at hp
        obtain ⟨⟨⟨m, hm, e⟩, hIA⟩, hk2⟩ := hk.resolve_left h
        have cm : (ν 1 1).toNatClampNeg = m := nc e (by omega)
        have etk : rz_up (rz_up ν 1 1 (nI (m + 1))) 2 m (v_oct w (nI i)) = f_tk (v_oct w (nI i)) ν := by unfold f_tk; rw [cm]
        have nx := ih (i + 1) _ (by omega) hk2 hp
        rw [nI_succ] at nx
        refine ⟨_, _, rfl, _, m, rfl, e, hm, ?_⟩
        rw [etk]
        refine And.intro rfl (And.intro (fun h2 => ?_) (fun h2 => ?_))
        · unfold f_oct at nx
          rw [if_neg (b2_eq h2)] at nx
          exact hY 5 _ _ _ nx
        · have hw := b2_ne h2
          unfold f_oct at nx
          rw [if_pos hw, cm] at nx
          exact ⟨m + 1, rfl, by rw [← etk]; rfl, by omega, hIA hw, hY 5 _ _ _ nx⟩
  exact hY 3 _ _ _ (loop nn 0 μ (by omega) hok hC)
theorem m_Ca_feed (E : rz_E) : rz_MI SH CL E y_Ca_feed 5 (Cond.code y_Ca_feed c_Ca_feed 5 (some .int) :: rz_tbl) ({ frames := 6, cells := 0, slots := 0, locals := 134 }) C_Ca_feed := rz_metI (by decide) rfl (fun X _ G => sd_Ca_feed X G) bd_Ca_feed
theorem cd_Ca_feed : rz_Cd rz_tbl y_Ca_feed c_Ca_feed 5 (some .int) (Cond.code y_Ca_feed c_Ca_feed 5 (some .int) :: rz_tbl) 2 ({ frames := 6, cells := 0, slots := 0, locals := 134 }) := ⟨rz_good wd_353, ⟨_, rfl⟩, wd_40, by decide +kernel, rfl, rfl⟩
def f_tks (w : Int64) : Nat → Nat → rz_M → rz_M
  | 0, _, μ => μ
  | d + 1, i, μ => f_tks w d (i + 1) (f_tk (v_oct w (nI i)) μ)
/-- the whole BLOCK has come, but for the sum -/
def f_blk (p : Int32) (w : Int64) (n : Nat) (μ : rz_M) : rz_M := f_tks w n 0 (f_tk (nI n) (f_tk p (f_tk 0 (rz_up μ 1 1 0))))
def f_blk1 (p : Int32) (w : Int64) (n : Nat) (μ : rz_M) : rz_M := f_tk (xs (f_blk p w n μ 2) (3 + n)) (f_blk p w n μ)
def f_block (p : Int32) (w : Int64) (n : Int32) (μ : rz_M) : Int32 × rz_M :=
  if p < 0 then (-1, μ) else if 255 < p then (-1, μ) else if n < 0 then (-1, μ) else if n ≤ 8 then
    (if ¬ μ 0 3 = 0 then (f_ans (n.toNatClampNeg + 4) (f_blk1 p w n.toNatClampNeg μ) 1 3, f_ans (n.toNatClampNeg + 4) (f_blk1 p w n.toNatClampNeg μ)) else (-3, μ)) else (-1, μ)
theorem f_tk_11 {x : Int32} {μ : rz_M} {n : Nat} (h : μ 1 1 = nI n) (hn : n < 2147483648) : f_tk x μ 1 1 = nI (n + 1) := by
  unfold f_tk
  rw [nc h hn, rz_up_k (by decide), rz_up_at]
theorem tk_eq {x : Int32} {m : Nat} {ν : rz_M} (e : ν 1 1 = nI m) (hm : m < 36) : rz_up (rz_up ν 1 1 (nI (m + 1))) 2 m x = f_tk x ν := by
  unfold f_tk
  rw [nc e (by omega)]
def C_Ca_block : rz_C := fun As μ P => ∃ (p : Int32) (w : Int64) (n : Int32), As = [.ref 0, .int p, .long w, .int n] ∧ (¬ p < 0 → ¬ 255 < p → ¬ n < 0 → n ≤ 8 → ¬ μ 0 3 = 0 → IA (f_blk1 p w n.toNatClampNeg μ)) ∧ PQ P (f_block p w n μ)
def bk_Ca_block : Nat → List rz_T := fun b => match b with
  | 0 => [tz_iload 1, tz_if_lt 1, tz_iload 1, tz_sipush 255, tz_icmp_gt 1, tz_iload 4, tz_if_lt 1, tz_iload 4, tz_bipush 8, tz_icmp_le 2, tz_fall 1]
  | 1 => [tz_iconst (-1), tz_iret]
  | 2 => [tz_aload 0, tz_get SH 6 3, tz_if_ne 3, tz_bipush (-3), tz_iret]
  | 3 => [tz_aload 0, tz_get SH 6 0, tz_iconst 0, tz_put SH 3 1, tz_aload 0, tz_get SH 6 0, tz_iconst 0, tz_cv SH 1 3 2 C_Li_take, tz_aload 0, tz_get SH 6 0, tz_iload 1, tz_cv SH 1 3 2 C_Li_take, tz_aload 0, tz_get SH 6 0, tz_iload 4, tz_cv SH 1 3 2 C_Li_take, tz_iconst 0, tz_istore 5, tz_fall 4]
  | 4 => [tz_iload 5, tz_iload 4, tz_icmp_ge 5, tz_aload 0, tz_get SH 6 0, tz_lload 2, tz_iload 5, tz_cs 2 3 C_Ca_octetOf, tz_cv SH 1 3 2 C_Li_take, tz_iinc 5 1, tz_goto 4]
  | 5 => [tz_aload 0, tz_get SH 6 0, tz_aload 0, tz_get SH 6 0, tz_cv SH 0 3 1 C_Li_sumOfArrived, tz_cv SH 1 3 2 C_Li_take, tz_aload 0, tz_cv SH 0 6 3 C_Ca_answerBlock, tz_aload 0, tz_get SH 6 0, tz_get SH 3 3, tz_iret]
  | _ => []
def bp_Ca_block : Nat → Nat := fun b => match b with
  | 0 => 0
  | 1 => 23
  | 2 => 25
  | 3 => 35
  | 4 => 71
  | 5 => 97
  | _ => 0
set_option maxRecDepth 100000 in
set_option maxHeartbeats 4000000 in
theorem sd_Ca_block (X : rz_X) (G : rz_Cx CL X c_Ca_block 6 rz_tbl R_Ca ({ frames := 6, cells := 0, slots := 0, locals := 134 })) : ∀ b, rz_SB SH CL X bp_Ca_block (rz_RI SH CL X c_Ca_block (fun v => narrow .int (.int v) = .int v)) (bk_Ca_block b) (bp_Ca_block b) := fun b => match b with
  | 0 => (rz_cons (rz_iload_n G d_Ca_block_0 rfl) (rz_cons (rz_if_lt G d_Ca_block_1 (by decide)) (rz_cons (rz_iload_n G d_Ca_block_4 rfl) (rz_cons (rz_sipush G d_Ca_block_5 (by decide)) (rz_cons (rz_icmp_gt G d_Ca_block_8 (by decide)) (rz_cons (rz_iload G d_Ca_block_11) (rz_cons (rz_if_lt G d_Ca_block_13 (by decide)) (rz_cons (rz_iload G d_Ca_block_16) (rz_cons (rz_bipush G d_Ca_block_18 (by decide)) (rz_cons (rz_icmp_le G d_Ca_block_20 (by decide)) (rz_fall rfl)))))))))))
  | 1 => (rz_cons (rz_iconst G d_Ca_block_23 (by decide)) (rz_cons (rz_iret (npc := 0) (fun _ => rfl) d_Ca_block_24) rz_nil))
  | 2 => (rz_cons (rz_aload_n G d_Ca_block_25 rfl) (rz_cons (rz_get G rfl in_Ca (by decide) wd_261 d_Ca_block_26) (rz_cons (rz_if_ne G d_Ca_block_29 (by decide)) (rz_cons (rz_bipush G d_Ca_block_32 (by decide)) (rz_cons (rz_iret (npc := 0) (fun _ => rfl) d_Ca_block_34) rz_nil)))))
  | 3 => (rz_cons (rz_aload_n G d_Ca_block_35 rfl) (rz_cons (rz_get G rfl in_Ca (by decide) wd_258 d_Ca_block_36) (rz_cons (rz_iconst G d_Ca_block_39 (by decide)) (rz_cons (rz_putN G rfl in_Li ty_Li tyok_Li nm_Li (by decide) rfl (by decide +kernel) wn_0 d_Ca_block_40) (rz_cons (rz_aload_n G d_Ca_block_43 rfl) (rz_cons (rz_get G rfl in_Ca (by decide) wd_258 d_Ca_block_44) (rz_cons (rz_iconst G d_Ca_block_47 (by decide)) (rz_cons (rz_cvv G (m_Li_take X.1) cd_Li_take wd_357 wd_358 wd_359 rfl rfl (by decide) d_Ca_block_48) (rz_cons (rz_aload_n G d_Ca_block_51 rfl) (rz_cons (rz_get G rfl in_Ca (by decide) wd_258 d_Ca_block_52) (rz_cons (rz_iload_n G d_Ca_block_55 rfl) (rz_cons (rz_cvv G (m_Li_take X.1) cd_Li_take wd_357 wd_358 wd_359 rfl rfl (by decide) d_Ca_block_56) (rz_cons (rz_aload_n G d_Ca_block_59 rfl) (rz_cons (rz_get G rfl in_Ca (by decide) wd_258 d_Ca_block_60) (rz_cons (rz_iload G d_Ca_block_63) (rz_cons (rz_cvv G (m_Li_take X.1) cd_Li_take wd_357 wd_358 wd_359 rfl rfl (by decide) d_Ca_block_65) (rz_cons (rz_iconst G d_Ca_block_68 (by decide)) (rz_cons (rz_istore G d_Ca_block_69 (by decide)) (rz_fall rfl)))))))))))))))))))
  | 4 => (rz_cons (rz_iload G d_Ca_block_71) (rz_cons (rz_iload G d_Ca_block_73) (rz_cons (rz_icmp_ge G d_Ca_block_75 (by decide)) (rz_cons (rz_aload_n G d_Ca_block_78 rfl) (rz_cons (rz_get G rfl in_Ca (by decide) wd_258 d_Ca_block_79) (rz_cons (rz_lload_n G d_Ca_block_82 rfl) (rz_cons (rz_iload G d_Ca_block_83) (rz_cons (rz_csi G (m_Ca_octetOf X.1) cd_Ca_octetOf wd_354 wd_355 (by decide) d_Ca_block_85) (rz_cons (rz_cvv G (m_Li_take X.1) cd_Li_take wd_357 wd_358 wd_359 rfl rfl (by decide) d_Ca_block_88) (rz_cons (rz_iinc G d_Ca_block_91 (by decide) (by decide)) (rz_cons (rz_goto (npc := 0) G d_Ca_block_94 (by decide)) rz_nil)))))))))))
  | 5 => (rz_cons (rz_aload_n G d_Ca_block_97 rfl) (rz_cons (rz_get G rfl in_Ca (by decide) wd_258 d_Ca_block_98) (rz_cons (rz_aload_n G d_Ca_block_101 rfl) (rz_cons (rz_get G rfl in_Ca (by decide) wd_258 d_Ca_block_102) (rz_cons (rz_cvi G (m_Li_sumOfArrived X.1) cd_Li_sumOfArrived wd_589 wd_382 wd_383 rfl rfl (by decide) d_Ca_block_105) (rz_cons (rz_cvv G (m_Li_take X.1) cd_Li_take wd_357 wd_358 wd_359 rfl rfl (by decide) d_Ca_block_108) (rz_cons (rz_aload_n G d_Ca_block_111 rfl) (rz_cons (rz_cvv G (m_Ca_answerBlock X.1) cd_Ca_answerBlock wd_373 wd_375 wd_2 rfl rfl (by decide) d_Ca_block_112) (rz_cons (rz_aload_n G d_Ca_block_115 rfl) (rz_cons (rz_get G rfl in_Ca (by decide) wd_258 d_Ca_block_116) (rz_cons (rz_getN G rfl in_Li (by decide) wn_2 d_Ca_block_119) (rz_cons (rz_iret (npc := 0) (fun _ => rfl) d_Ca_block_122) rz_nil))))))))))))
  | _ + 6 => rz_nil
set_option maxRecDepth 100000 in
set_option maxHeartbeats 4000000 in
theorem bd_Ca_block : ∀ (Y : Nat → rz_K) (P : rz_P), (∀ b ls st μ, rz_ex P Y (bk_Ca_block b) ls st μ → Y b ls st μ) → ∀ As μ, C_Ca_block As μ P → Y 0 (rz_pad 6 (rz_ent As)) [] μ := by
  intro Y P hY As μ hC
  obtain ⟨p, w, n, rfl, hok, hC⟩ := hC
  refine hY 0 _ _ _ (And.intro (fun h => hY 1 _ _ _ (rzT (PQ P) h hC)) (fun h1 => ?_))
  have hC := rzF (PQ P) h1 hC
  refine And.intro (fun h => hY 1 _ _ _ (rzT (PQ P) h hC)) (fun h2 => ?_)
  have hC := rzF (PQ P) h2 hC
  refine And.intro (fun h => hY 1 _ _ _ (rzT (PQ P) h hC)) (fun h3 => ?_)
  have hC := rzF (PQ P) h3 hC
  refine And.intro (fun h4 => ?_) (fun h => hY 1 _ _ _ (rzF (PQ P) h hC))
  have hC := rzT (PQ P) h4 hC
  refine hY 2 _ _ _ (And.intro (fun h5 => ?_) (fun h => rzN (PQ P) h hC))
  have hC := rzT (PQ P) h5 hC
  have hok := hok h1 h2 h3 h4 h5
  obtain ⟨nn, hn31, hn⟩ := nI_of h3
  have hn8 : nn ≤ 8 := by rw [hn] at h4; exact (nI_leI (b := 8) hn31 (by omega)).mp h4
  rw [nc hn hn31] at hok hC
  have loop : ∀ (d i : Nat) (ν : rz_M), i + d = nn → ν 1 1 = nI (3 + i) → f_tks w d i ν = f_blk p w nn μ → Y 4 [some (.ref 0), some (.int p), some (.long w), none, some (.int n), some (.int (nI i))] [] ν := by
    intro d
    induction d with
    | zero =>
      intro i ν hi h11 he
      have : i = nn := by omega
      subst this
      refine hY 4 _ _ _ (And.intro (fun _ => ?_) (fun h => absurd ?_ h))
      · have he : ν = f_blk p w i μ := he
        refine hY 5 _ _ _ ⟨3 + i, rfl, h11, by omega, ?_⟩
        refine ⟨_, 3 + i, rfl, h11, by omega, ?_⟩
        rw [tk_eq h11 (by omega)]
        refine ⟨i + 4, rfl, ?_, by omega, ?_, ?_⟩
        · rw [f_tk_11 h11 (by omega)]; congr 1; omega
        · rw [he]; exact hok
        · show P _ _
          rw [he]
          exact hC
      · rw [hn]; exact Int32.le_refl _
    | succ d ih =>
      intro i ν hi h11 he
      refine hY 4 _ _ _ (And.intro (fun h => absurd h ?_) (fun _ => ⟨_, _, rfl, ?_⟩))
      · rw [hn]; exact nI_ge (by omega) (by omega)
      · refine ⟨_, 3 + i, rfl, h11, by omega, ?_⟩
        rw [tk_eq h11 (by omega)]
        have := ih (i + 1) (f_tk (v_oct w (nI i)) ν) (by omega) (by rw [f_tk_11 h11 (by omega)]; congr 1) he
        rw [nI_succ] at this
        exact this
  refine hY 3 _ _ _ ⟨_, 0, rfl, rfl, by omega, ?_⟩
  rw [tk_eq rfl (by omega)]
  refine ⟨_, 1, rfl, rfl, by omega, ?_⟩
  rw [tk_eq rfl (by omega)]
  refine ⟨_, 2, rfl, rfl, by omega, ?_⟩
  rw [tk_eq rfl (by omega)]
  refine loop nn 0 _ (by omega) rfl ?_
  unfold f_blk
  rw [hn]
theorem m_Ca_block (E : rz_E) : rz_MI SH CL E y_Ca_block 6 (Cond.code y_Ca_block c_Ca_block 6 (some .int) :: rz_tbl) ({ frames := 6, cells := 0, slots := 0, locals := 134 }) C_Ca_block := rz_metI (by decide) rfl (fun X _ G => sd_Ca_block X G) bd_Ca_block
theorem cd_Ca_block : rz_Cd rz_tbl y_Ca_block c_Ca_block 6 (some .int) (Cond.code y_Ca_block c_Ca_block 6 (some .int) :: rz_tbl) 3 ({ frames := 6, cells := 0, slots := 0, locals := 134 }) := ⟨rz_good wd_588, ⟨_, rfl⟩, wd_40, by decide +kernel, rfl, rfl⟩
