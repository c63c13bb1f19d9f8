def g_work (p l : Nat) (μ : rz_M) : rz_M :=
  if p < 128 ∧ p % 32 = 0 then (if nI (p / 64) = μ 19 22 then g_comes l (if p % 64 = 32 then 1 else 0) μ else g_R 2 μ)
  else if 128 ≤ p ∧ p < 160 ∧ p % 16 < 3 then (if 0 < l then g_R 2 μ else g_asks (nI ((p - 128) / 16)) μ)
  else if p = 192 ∧ l = 0 then g_say 224 0 (g_begin μ)
  else if (p = 193 ∧ l = 1) ∧ (¬ μ 27 3 < 1 ∧ ¬ 32 < μ 27 3) then g_say 225 1 (rz_up (rz_up μ 19 24 (μ 27 3)) 30 3 (μ 27 3))
  else if p = 194 ∧ l = 0 then g_say 226 0 (g_forget μ)
  else g_R 2 μ
def CP (l : Nat) (μ : rz_M) : Prop := IX (g_cm0 l μ) ∧ (¬ (g_exe (g_cm0 l μ)).2 19 17 = 0 → IXa (g_exe (g_cm0 l μ)).2)
def AP (μ : rz_M) : Prop := ∃ a s z r : Nat, μ 19 32 = nI a ∧ μ 19 33 = nI s ∧ μ 19 24 = nI z ∧ s ≤ a ∧ a ≤ 26 ∧ z ≤ 32 ∧ μ 19 35 = nI r ∧ r ≤ 36
def WP (p l : Nat) (μ : rz_M) : Prop := JT μ ∧ OCT (μ 27) ∧ (p < 128 ∧ p % 64 = 0 ∧ nI (p / 64) = μ 19 22 → CP l μ) ∧ AP μ
def C_Mo_work : rz_C := fun As μ P => ∃ p l : Nat, As = [.ref 19, .int (nI p), .int (nI l)] ∧ p ≤ 255 ∧ l ≤ 32 ∧ WP p l μ ∧ P none (g_work p l μ)
def bk_Mo_work : Nat → List rz_T := fun b => match b with
  | 0 => [tz_iload 1, tz_sipush 128, tz_icmp_ge 4, tz_iload 1, tz_bipush 32, tz_irem, tz_if_ne 4, tz_iload 1, tz_bipush 64, tz_idiv, tz_aload 0, tz_get SH 7 22, tz_icmp_eq 1, tz_aload 0, tz_iconst 2, tz_cv SH 1 7 2 C_Mo_answerR, tz_goto 10]
  | 1 => [tz_aload 0, tz_iload 2, tz_iload 1, tz_bipush 64, tz_irem, tz_bipush 32, tz_icmp_ne 2, tz_iconst 1, tz_goto 3]
  | 2 => [tz_iconst 0, tz_fall 3]
  | 3 => [tz_cv SH 2 7 4 C_Mo_comes, tz_goto 10]
  | 4 => [tz_iload 1, tz_sipush 192, tz_icmp_ge 6, tz_iload 1, tz_sipush 128, tz_icmp_lt 6, tz_iload 1, tz_bipush 16, tz_irem, tz_iconst 3, tz_icmp_ge 6, tz_iload 1, tz_sipush 160, tz_icmp_ge 6, tz_iload 2, tz_if_le 5, tz_aload 0, tz_iconst 2, tz_cv SH 1 7 2 C_Mo_answerR, tz_goto 10]
  | 5 => [tz_aload 0, tz_iload 1, tz_sipush 128, tz_isub, tz_bipush 16, tz_idiv, tz_cv SH 1 7 3 C_Mo_asks, tz_goto 10]
  | 6 => [tz_iload 1, tz_sipush 192, tz_icmp_ne 7, tz_iload 2, tz_if_ne 7, tz_aload 0, tz_cv SH 0 7 1 C_Mo_begin, tz_aload 0, tz_sipush 224, tz_iconst 0, tz_cv SH 2 7 5 C_Mo_say, tz_goto 10]
  | 7 => [tz_iload 1, tz_sipush 193, tz_icmp_ne 8, tz_iload 2, tz_iconst 1, tz_icmp_ne 8, tz_aload 0, tz_get SH 7 25, tz_iconst 3, tz_iald SH, tz_iconst 1, tz_bipush 32, tz_cs 3 3 C_Mo_within, tz_if_eq 8, tz_aload 0, tz_aload 0, tz_get SH 7 25, tz_iconst 3, tz_iald SH, tz_put SH 7 24, tz_aload 0, tz_get SH 7 28, tz_iconst 3, tz_aload 0, tz_get SH 7 24, tz_iast SH, tz_aload 0, tz_sipush 225, tz_iconst 1, tz_cv SH 2 7 5 C_Mo_say, tz_goto 10]
  | 8 => [tz_iload 1, tz_sipush 194, tz_icmp_ne 9, tz_iload 2, tz_if_ne 9, tz_aload 0, tz_cv SH 0 7 1 C_Mo_forget, tz_aload 0, tz_sipush 226, tz_iconst 0, tz_cv SH 2 7 5 C_Mo_say, tz_goto 10]
  | 9 => [tz_aload 0, tz_iconst 2, tz_cv SH 1 7 2 C_Mo_answerR, tz_fall 10]
  | 10 => [tz_vret]
  | _ => []
def bp_Mo_work : Nat → Nat := fun b => match b with
  | 0 => 0
  | 1 => 33
  | 2 => 48
  | 3 => 49
  | 4 => 55
  | 5 => 96
  | 6 => 111
  | 7 => 137
  | 8 => 195
  | 9 => 221
  | 10 => 226
  | _ => 0
set_option maxRecDepth 100000 in
set_option maxHeartbeats 4000000 in
theorem sd_Mo_work (X : rz_X) (G : rz_Cx CL X c_Mo_work 3 rz_tbl R_Mo ({ frames := 5, cells := 0, slots := 0, locals := 116 })) : ∀ b, rz_SB SH CL X bp_Mo_work (rz_RV SH CL X c_Mo_work) (bk_Mo_work b) (bp_Mo_work b) := fun b => match b with
  | 0 => (rz_cons (rz_iload_n G d_Mo_work_0 rfl) (rz_cons (rz_sipush G d_Mo_work_1 (by decide)) (rz_cons (rz_icmp_ge G d_Mo_work_4 (by decide)) (rz_cons (rz_iload_n G d_Mo_work_7 rfl) (rz_cons (rz_bipush G d_Mo_work_8 (by decide)) (rz_cons (rz_irem G d_Mo_work_10) (rz_cons (rz_if_ne G d_Mo_work_11 (by decide)) (rz_cons (rz_iload_n G d_Mo_work_14 rfl) (rz_cons (rz_bipush G d_Mo_work_15 (by decide)) (rz_cons (rz_idiv G d_Mo_work_17) (rz_cons (rz_aload_n G d_Mo_work_18 rfl) (rz_cons (rz_get G rfl in_Mo (by decide) wd_641 d_Mo_work_19) (rz_cons (rz_icmp_eq G d_Mo_work_22 (by decide)) (rz_cons (rz_aload_n G d_Mo_work_25 rfl) (rz_cons (rz_iconst G d_Mo_work_26 (by decide)) (rz_cons (rz_cvv G (m_Mo_answerR X.1) cd_Mo_answerR wd_776 wd_778 wd_24 rfl rfl (by decide) d_Mo_work_27) (rz_cons (rz_goto (npc := 0) G d_Mo_work_30 (by decide)) rz_nil)))))))))))))))))
  | 1 => (rz_cons (rz_aload_n G d_Mo_work_33 rfl) (rz_cons (rz_iload_n G d_Mo_work_34 rfl) (rz_cons (rz_iload_n G d_Mo_work_35 rfl) (rz_cons (rz_bipush G d_Mo_work_36 (by decide)) (rz_cons (rz_irem G d_Mo_work_38) (rz_cons (rz_bipush G d_Mo_work_39 (by decide)) (rz_cons (rz_icmp_ne G d_Mo_work_41 (by decide)) (rz_cons (rz_iconst G d_Mo_work_44 (by decide)) (rz_cons (rz_goto (npc := 0) G d_Mo_work_45 (by decide)) rz_nil)))))))))
  | 2 => (rz_cons (rz_iconst G d_Mo_work_48 (by decide)) (rz_fall rfl))
  | 3 => (rz_cons (rz_cvv G (m_Mo_comes X.1) cd_Mo_comes wd_788 wd_790 wd_27 rfl rfl (by decide) d_Mo_work_49) (rz_cons (rz_goto (npc := 0) G d_Mo_work_52 (by decide)) rz_nil))
  | 4 => (rz_cons (rz_iload_n G d_Mo_work_55 rfl) (rz_cons (rz_sipush G d_Mo_work_56 (by decide)) (rz_cons (rz_icmp_ge G d_Mo_work_59 (by decide)) (rz_cons (rz_iload_n G d_Mo_work_62 rfl) (rz_cons (rz_sipush G d_Mo_work_63 (by decide)) (rz_cons (rz_icmp_lt G d_Mo_work_66 (by decide)) (rz_cons (rz_iload_n G d_Mo_work_69 rfl) (rz_cons (rz_bipush G d_Mo_work_70 (by decide)) (rz_cons (rz_irem G d_Mo_work_72) (rz_cons (rz_iconst G d_Mo_work_73 (by decide)) (rz_cons (rz_icmp_ge G d_Mo_work_74 (by decide)) (rz_cons (rz_iload_n G d_Mo_work_77 rfl) (rz_cons (rz_sipush G d_Mo_work_78 (by decide)) (rz_cons (rz_icmp_ge G d_Mo_work_81 (by decide)) (rz_cons (rz_iload_n G d_Mo_work_84 rfl) (rz_cons (rz_if_le G d_Mo_work_85 (by decide)) (rz_cons (rz_aload_n G d_Mo_work_88 rfl) (rz_cons (rz_iconst G d_Mo_work_89 (by decide)) (rz_cons (rz_cvv G (m_Mo_answerR X.1) cd_Mo_answerR wd_776 wd_778 wd_24 rfl rfl (by decide) d_Mo_work_90) (rz_cons (rz_goto (npc := 0) G d_Mo_work_93 (by decide)) rz_nil))))))))))))))))))))
  | 5 => (rz_cons (rz_aload_n G d_Mo_work_96 rfl) (rz_cons (rz_iload_n G d_Mo_work_97 rfl) (rz_cons (rz_sipush G d_Mo_work_98 (by decide)) (rz_cons (rz_isub G d_Mo_work_101) (rz_cons (rz_bipush G d_Mo_work_102 (by decide)) (rz_cons (rz_idiv G d_Mo_work_104) (rz_cons (rz_cvv G (m_Mo_asks X.1) cd_Mo_asks wd_833 wd_835 wd_38 rfl rfl (by decide) d_Mo_work_105) (rz_cons (rz_goto (npc := 0) G d_Mo_work_108 (by decide)) rz_nil))))))))
  | 6 => (rz_cons (rz_iload_n G d_Mo_work_111 rfl) (rz_cons (rz_sipush G d_Mo_work_112 (by decide)) (rz_cons (rz_icmp_ne G d_Mo_work_115 (by decide)) (rz_cons (rz_iload_n G d_Mo_work_118 rfl) (rz_cons (rz_if_ne G d_Mo_work_119 (by decide)) (rz_cons (rz_aload_n G d_Mo_work_122 rfl) (rz_cons (rz_cvv G (m_Mo_begin X.1) cd_Mo_begin wd_755 wd_757 wd_21 rfl rfl (by decide) d_Mo_work_123) (rz_cons (rz_aload_n G d_Mo_work_126 rfl) (rz_cons (rz_sipush G d_Mo_work_127 (by decide)) (rz_cons (rz_iconst G d_Mo_work_130 (by decide)) (rz_cons (rz_cvv G (m_Mo_say X.1) cd_Mo_say wd_780 wd_782 wd_25 rfl rfl (by decide) d_Mo_work_131) (rz_cons (rz_goto (npc := 0) G d_Mo_work_134 (by decide)) rz_nil))))))))))))
  | 7 => (rz_cons (rz_iload_n G d_Mo_work_137 rfl) (rz_cons (rz_sipush G d_Mo_work_138 (by decide)) (rz_cons (rz_icmp_ne G d_Mo_work_141 (by decide)) (rz_cons (rz_iload_n G d_Mo_work_144 rfl) (rz_cons (rz_iconst G d_Mo_work_145 (by decide)) (rz_cons (rz_icmp_ne G d_Mo_work_146 (by decide)) (rz_cons (rz_aload_n G d_Mo_work_149 rfl) (rz_cons (rz_get G rfl in_Mo (by decide) wd_644 d_Mo_work_150) (rz_cons (rz_iconst G d_Mo_work_153 (by decide)) (rz_cons (rz_iald G d_Mo_work_154) (rz_cons (rz_iconst G d_Mo_work_155 (by decide)) (rz_cons (rz_bipush G d_Mo_work_156 (by decide)) (rz_cons (rz_csi G (m_Mo_within X.1) cd_Mo_within wd_735 wd_736 (by decide) d_Mo_work_158) (rz_cons (rz_if_eq G d_Mo_work_161 (by decide)) (rz_cons (rz_aload_n G d_Mo_work_164 rfl) (rz_cons (rz_aload_n G d_Mo_work_165 rfl) (rz_cons (rz_get G rfl in_Mo (by decide) wd_644 d_Mo_work_166) (rz_cons (rz_iconst G d_Mo_work_169 (by decide)) (rz_cons (rz_iald G d_Mo_work_170) (rz_cons (rz_put G rfl in_Mo ty_Mo tyok_Mo nm_Mo (by decide) rfl (by decide +kernel) wd_643 d_Mo_work_171) (rz_cons (rz_aload_n G d_Mo_work_174 rfl) (rz_cons (rz_get G rfl in_Mo (by decide) wd_647 d_Mo_work_175) (rz_cons (rz_iconst G d_Mo_work_178 (by decide)) (rz_cons (rz_aload_n G d_Mo_work_179 rfl) (rz_cons (rz_get G rfl in_Mo (by decide) wd_643 d_Mo_work_180) (rz_cons (rz_iast G d_Mo_work_183) (rz_cons (rz_aload_n G d_Mo_work_184 rfl) (rz_cons (rz_sipush G d_Mo_work_185 (by decide)) (rz_cons (rz_iconst G d_Mo_work_188 (by decide)) (rz_cons (rz_cvv G (m_Mo_say X.1) cd_Mo_say wd_780 wd_782 wd_25 rfl rfl (by decide) d_Mo_work_189) (rz_cons (rz_goto (npc := 0) G d_Mo_work_192 (by decide)) rz_nil)))))))))))))))))))))))))))))))
  | 8 => (rz_cons (rz_iload_n G d_Mo_work_195 rfl) (rz_cons (rz_sipush G d_Mo_work_196 (by decide)) (rz_cons (rz_icmp_ne G d_Mo_work_199 (by decide)) (rz_cons (rz_iload_n G d_Mo_work_202 rfl) (rz_cons (rz_if_ne G d_Mo_work_203 (by decide)) (rz_cons (rz_aload_n G d_Mo_work_206 rfl) (rz_cons (rz_cvv G (m_Mo_forget X.1) cd_Mo_forget wd_759 wd_761 wd_22 rfl rfl (by decide) d_Mo_work_207) (rz_cons (rz_aload_n G d_Mo_work_210 rfl) (rz_cons (rz_sipush G d_Mo_work_211 (by decide)) (rz_cons (rz_iconst G d_Mo_work_214 (by decide)) (rz_cons (rz_cvv G (m_Mo_say X.1) cd_Mo_say wd_780 wd_782 wd_25 rfl rfl (by decide) d_Mo_work_215) (rz_cons (rz_goto (npc := 0) G d_Mo_work_218 (by decide)) rz_nil))))))))))))
  | 9 => (rz_cons (rz_aload_n G d_Mo_work_221 rfl) (rz_cons (rz_iconst G d_Mo_work_222 (by decide)) (rz_cons (rz_cvv G (m_Mo_answerR X.1) cd_Mo_answerR wd_776 wd_778 wd_24 rfl rfl (by decide) d_Mo_work_223) (rz_fall rfl))))
  | 10 => (rz_cons (rz_vret (npc := 0) d_Mo_work_226) rz_nil)
  | _ + 11 => rz_nil
set_option maxRecDepth 100000 in
set_option maxHeartbeats 4000000 in
theorem bd_Mo_work : ∀ (Y : Nat → rz_K) (P : rz_P), (∀ b ls st μ, rz_ex P Y (bk_Mo_work b) ls st μ → Y b ls st μ) → ∀ As μ, C_Mo_work As μ P → Y 0 (rz_pad 3 (rz_ent As)) [] μ := by
  intro Y P hY As μ hC
  obtain ⟨p, l, rfl, hp, hl, ⟨hJ, hO, hCP, hAP⟩, hC⟩ := hC
  have r32 : nI p - nI p / 32 * 32 = nI (p % 32) := pk_rem (a := p) (d := 32) (by omega) (by omega) (by omega)
  have r64 : nI p - nI p / 64 * 64 = nI (p % 64) := pk_rem (a := p) (d := 64) (by omega) (by omega) (by omega)
  have r16 : nI p - nI p / 16 * 16 = nI (p % 16) := pk_rem (a := p) (d := 16) (by omega) (by omega) (by omega)
  have d64 : nI p / 64 = nI (p / 64) := pk_div (a := p) (d := 64) (by omega) (by omega) (by omega)
  have lt : ∀ k : Nat, k < 2147483648 → (¬ nI k ≤ nI p → p < k) ∧ (nI k ≤ nI p → k ≤ p) ∧ (nI p < nI k → p < k) ∧ (¬ nI p < nI k → k ≤ p) := by
    intro k hk
    refine ⟨fun h => ?_, fun h => (nI_leI hk (by omega)).mp h, fun h => (nI_ltI (by omega) hk).mp h, fun h => ?_⟩
    · rcases Nat.lt_or_ge p k with q | q
      · exact q
      · exact absurd (nI_le q (by omega)) h
    · rcases Nat.lt_or_ge p k with q | q
      · exact absurd (nI_lt q hk) h
      · exact q
  have eqp : ∀ k : Nat, k < 2147483648 → (nI p = nI k ↔ p = k) := fun k hk => nI_eq (by omega) hk
  have eql : ∀ k : Nat, k < 2147483648 → (nI l = nI k ↔ l = k) := fun k hk => nI_eq (by omega) hk
  -- the blocks from 6 on: nothing of I, nothing of R
  have nine : ¬ (p < 128 ∧ p % 32 = 0) → ¬ (128 ≤ p ∧ p < 160 ∧ p % 16 < 3) → ¬ (p = 192 ∧ l = 0) → ¬ ((p = 193 ∧ l = 1) ∧ (¬ μ 27 3 < 1 ∧ ¬ 32 < μ 27 3)) → ¬ (p = 194 ∧ l = 0) → Y 9 [some (.ref 19), some (.int (nI p)), some (.int (nI l))] [] μ := by
    intro n1 n2 n3 n4 n5
    unfold g_work at hC
    rw [if_neg n1, if_neg n2, if_neg n3, if_neg n4, if_neg n5] at hC
    exact hY 9 _ _ _ ⟨_, rfl, hY 10 _ _ _ hC⟩
  have eight : ¬ (p < 128 ∧ p % 32 = 0) → ¬ (128 ≤ p ∧ p < 160 ∧ p % 16 < 3) → ¬ (p = 192 ∧ l = 0) → ¬ ((p = 193 ∧ l = 1) ∧ (¬ μ 27 3 < 1 ∧ ¬ 32 < μ 27 3)) → Y 8 [some (.ref 19), some (.int (nI p)), some (.int (nI l))] [] μ := by
    intro n1 n2 n3 n4
    refine hY 8 _ _ _ (And.intro (fun (h : ¬ nI p = nI 194) => nine n1 n2 n3 n4 (fun q => h (by rw [q.1]))) (fun (h : nI p = nI 194) => And.intro (fun (h2 : ¬ nI l = nI 0) => nine n1 n2 n3 n4 (fun q => h2 (by rw [q.2]))) (fun (h2 : nI l = nI 0) => And.intro rfl ⟨_, 0, rfl, by omega, hY 10 _ _ _ ?_⟩)))
    unfold g_work at hC
    rw [if_neg n1, if_neg n2, if_neg n3, if_neg n4, if_pos ⟨(eqp 194 (by omega)).mp h, (eql 0 (by omega)).mp h2⟩] at hC
    exact hC
  have seven : ¬ (p < 128 ∧ p % 32 = 0) → ¬ (128 ≤ p ∧ p < 160 ∧ p % 16 < 3) → ¬ (p = 192 ∧ l = 0) → Y 7 [some (.ref 19), some (.int (nI p)), some (.int (nI l))] [] μ := by
    intro n1 n2 n3
    refine hY 7 _ _ _ (And.intro (fun (h : ¬ nI p = nI 193) => eight n1 n2 n3 (fun q => h (by rw [q.1.1]))) (fun (h : nI p = nI 193) => And.intro (fun (h2 : ¬ nI l = nI 1) => eight n1 n2 n3 (fun q => h2 (by rw [q.1.2]))) (fun (h2 : nI l = nI 1) => And.intro (vi_c (by decide)) ⟨_, _, _, rfl, And.intro (fun h3 => eight n1 n2 n3 (fun q => b2_eq h3 q.2)) (fun h3 => And.intro (vi_c (by decide)) (And.intro (vi_c (by decide)) ⟨_, 1, rfl, by omega, hY 10 _ _ _ ?_⟩))⟩)))
    unfold g_work at hC
    rw [if_neg n1, if_neg n2, if_neg n3, if_pos ⟨⟨(eqp 193 (by omega)).mp h, (eql 1 (by omega)).mp h2⟩, b2_ne h3⟩] at hC
    exact hC
  have six : ¬ (p < 128 ∧ p % 32 = 0) → ¬ (128 ≤ p ∧ p < 160 ∧ p % 16 < 3) → Y 6 [some (.ref 19), some (.int (nI p)), some (.int (nI l))] [] μ := by
    intro n1 n2
    refine hY 6 _ _ _ (And.intro (fun (h : ¬ nI p = nI 192) => seven n1 n2 (fun q => h (by rw [q.1]))) (fun (h : nI p = nI 192) => And.intro (fun (h2 : ¬ nI l = nI 0) => seven n1 n2 (fun q => h2 (by rw [q.2]))) (fun (h2 : nI l = nI 0) => And.intro rfl ⟨_, 0, rfl, by omega, hY 10 _ _ _ ?_⟩)))
    unfold g_work at hC
    rw [if_neg n1, if_neg n2, if_pos ⟨(eqp 192 (by omega)).mp h, (eql 0 (by omega)).mp h2⟩] at hC
    exact hC
  have four : ¬ (p < 128 ∧ p % 32 = 0) → Y 4 [some (.ref 19), some (.int (nI p)), some (.int (nI l))] [] μ := by
    intro n1
    refine hY 4 _ _ _ (And.intro (fun (h : nI 192 ≤ nI p) => six n1 (fun q => ?_)) (fun (_ : ¬ nI 192 ≤ nI p) => And.intro (fun (h : nI p < nI 128) => six n1 (fun q => ?_)) (fun (h2 : ¬ nI p < nI 128) => And.intro (by decide) (And.intro (fun (h : nI 3 ≤ nI p - nI p / 16 * 16) => six n1 (fun q => ?_)) (fun (h3 : ¬ nI 3 ≤ nI p - nI p / 16 * 16) => And.intro (fun (h : nI 160 ≤ nI p) => six n1 (fun q => ?_)) (fun (h4 : ¬ nI 160 ≤ nI p) => ?_))))))
    · have := (lt 192 (by omega)).2.1 h; omega
    · have := (lt 128 (by omega)).2.2.1 h; omega
    · rw [r16] at h
      have := (nI_leI (a := 3) (by omega) (by omega)).mp h
      omega
    · have := (lt 160 (by omega)).2.1 h; omega
    · rw [r16] at h3
      have a1 := (lt 128 (by omega)).2.2.2 h2
      have a2 := (lt 160 (by omega)).1 h4
      have a3 : p % 16 < 3 := by
        rcases Nat.lt_or_ge (p % 16) 3 with q | q
        · exact q
        · exact absurd (nI_le q (by omega)) h3
      unfold g_work at hC
      rw [if_neg n1, if_pos ⟨a1, a2, a3⟩] at hC
      refine And.intro (fun (h : nI l ≤ nI 0) => ?_) (fun (h : ¬ nI l ≤ nI 0) => ?_)
      · have l0 : ¬ 0 < l := by
          have := (nI_leI (b := 0) (by omega) (by omega)).mp h
          omega
        rw [if_neg l0] at hC
        have e : (nI p - 128) / 16 = nI ((p - 128) / 16) := by
          rw [show (128 : Int32) = nI 128 from rfl, pk_sub a1]
          exact pk_div (d := 16) (by omega) (by omega) (by omega)
        obtain ⟨a, s, z, r, ha, hs, hz, hsa, h26, h32, hr, h36⟩ := hAP
        refine hY 5 _ _ _ (And.intro (by decide) ⟨_, a, s, z, r, rfl, ha, hs, hz, hsa, h26, h32, hr, h36, hY 10 _ _ _ ?_⟩)
        rw [e]
        exact hC
      · have l0 : 0 < l := by
          rcases Nat.eq_zero_or_pos l with q | q
          · exact absurd (by rw [q]; exact Int32.le_refl _) h
          · exact q
        rw [if_pos l0] at hC
        exact ⟨_, rfl, hY 10 _ _ _ hC⟩
  refine hY 0 _ _ _ (And.intro (fun (h : nI 128 ≤ nI p) => four (fun q => ?_)) (fun (h1 : ¬ nI 128 ≤ nI p) => And.intro (by decide) (And.intro (fun (h : ¬ nI p - nI p / 32 * 32 = 0) => four (fun q => ?_)) (fun (h2 : nI p - nI p / 32 * 32 = 0) => And.intro (by decide) ?_))))
  · have := (lt 128 (by omega)).2.1 h; omega
  · rw [r32, q.2] at h
    exact h rfl
  have a1 := (lt 128 (by omega)).1 h1
  have a2 : p % 32 = 0 := by
    rw [r32] at h2
    exact (nI_eq (b := 0) (by omega) (by omega)).mp h2
  unfold g_work at hC
  rw [if_pos ⟨a1, a2⟩] at hC
  refine And.intro (fun (h : nI p / 64 = μ 19 22) => ?_) (fun (h : ¬ nI p / 64 = μ 19 22) => ?_)
  · rw [d64] at h
    rw [if_pos h] at hC
    have three : ∀ m : Int32, m = (if p % 64 = 32 then 1 else 0) → Y 3 [some (.ref 19), some (.int (nI p)), some (.int (nI l))] [.int m, .int (nI l), .ref 19] μ := by
      intro m hm
      subst hm
      refine hY 3 _ _ _ ⟨l, _, rfl, hl, hJ, hO, fun h0 => ?_, hY 10 _ _ _ hC⟩
      have : p % 64 = 0 := by
        by_cases q : p % 64 = 32
        · rw [if_pos q] at h0
          exact absurd h0 (by decide)
        · omega
      exact hCP ⟨a1, this, h⟩
    refine hY 1 _ _ _ (And.intro (by decide) (And.intro (fun (h5 : ¬ nI p - nI p / 64 * 64 = nI 32) => hY 2 _ _ _ (three 0 ?_)) (fun (h5 : nI p - nI p / 64 * 64 = nI 32) => three 1 ?_)))
    · rw [r64] at h5
      rw [if_neg (fun q => h5 (by rw [q]))]
    · rw [r64] at h5
      rw [if_pos ((nI_eq (b := 32) (by omega) (by omega)).mp h5)]
  · rw [d64] at h
    rw [if_neg h] at hC
    exact ⟨_, rfl, hY 10 _ _ _ hC⟩
theorem m_Mo_work (E : rz_E) : rz_MV SH CL E y_Mo_work 3 (Cond.code y_Mo_work c_Mo_work 3 none :: rz_tbl) ({ frames := 5, cells := 0, slots := 0, locals := 116 }) C_Mo_work := rz_metV (by decide) rfl (fun X _ G => sd_Mo_work X G) bd_Mo_work
theorem cd_Mo_work : rz_Cd rz_tbl y_Mo_work c_Mo_work 3 none (Cond.code y_Mo_work c_Mo_work 3 none :: rz_tbl) 2 ({ frames := 5, cells := 0, slots := 0, locals := 116 }) := ⟨rz_good wd_787, ⟨_, rfl⟩, wd_47, by decide +kernel, rfl, rfl⟩
def g_b1 (v : Int32) (μ : rz_M) : rz_M := rz_up (rz_up μ 27 (μ 19 30).toNatClampNeg v) 19 30 (μ 19 30 + 1)
def g_b2 (v : Int32) (μ : rz_M) : rz_M := rz_up (g_b1 v μ) 19 30 0
abbrev p_tm (v : Int32) (μ : rz_M) : Prop := μ 19 30 + 1 = 3 ∧ ¬ v ≤ 32
abbrev p_go (v : Int32) (μ : rz_M) : Prop := p_tm v μ ∨ (¬ μ 19 30 + 1 < 4 ∧ g_b1 v μ 27 2 + 4 ≤ μ 19 30 + 1)
def g_take (v : Int32) (μ : rz_M) : rz_M := if p_go v μ then (if ¬ p_tm v μ ∧ ¬ xs (g_b1 v μ 27) ((μ 19 30).toNatClampNeg + 1) = 0 then g_R 1 (g_b2 v μ) else if p_tm v μ ∨ ¬ g_b1 v μ 27 0 = 0 then g_R 2 (g_b2 v μ) else g_work (g_b1 v μ 27 1).toNatClampNeg (g_b1 v μ 27 2).toNatClampNeg (g_b2 v μ)) else g_b1 v μ
def IT1 (v : Int32) (μ : rz_M) : Prop := (∃ m : Nat, m < 36 ∧ μ 19 30 = nI m) ∧ OCT (g_b1 v μ 27) ∧ (p_go v μ → ¬ p_tm v μ → (∃ l : Nat, l ≤ 32 ∧ g_b1 v μ 27 2 = nI l) ∧ WP (g_b1 v μ 27 1).toNatClampNeg (g_b1 v μ 27 2).toNatClampNeg (g_b2 v μ))
def C_Mo_take : rz_C := fun As μ P => ∃ v : Int32, As = [.ref 19, .int v] ∧ IT1 v μ ∧ P none (g_take v μ)
def bk_Mo_take : Nat → List rz_T := fun b => match b with
  | 0 => [tz_aload 0, tz_get SH 7 25, tz_aload 0, tz_get SH 7 30, tz_iload 1, tz_iast SH, tz_aload 0, tz_dup, tz_get SH 7 30, tz_iconst 1, tz_iadd, tz_put SH 7 30, tz_aload 0, tz_get SH 7 30, tz_iconst 3, tz_icmp_ne 1, tz_iload 1, tz_bipush 32, tz_icmp_le 1, tz_iconst 1, tz_goto 2]
  | 1 => [tz_iconst 0, tz_fall 2]
  | 2 => [tz_istore 2, tz_iload 2, tz_if_ne 4, tz_aload 0, tz_get SH 7 30, tz_iconst 4, tz_icmp_lt 3, tz_aload 0, tz_get SH 7 30, tz_aload 0, tz_get SH 7 25, tz_iconst 2, tz_iald SH, tz_iconst 4, tz_iadd, tz_icmp_ge 4, tz_fall 3]
  | 3 => [tz_vret]
  | 4 => [tz_iconst 0, tz_istore 3, tz_aload 0, tz_get SH 7 30, tz_istore 4, tz_iconst 0, tz_istore 5, tz_fall 5]
  | 5 => [tz_iload 5, tz_iload 4, tz_icmp_ge 6, tz_iload 3, tz_aload 0, tz_get SH 7 25, tz_iload 5, tz_iald SH, tz_ixor, tz_istore 3, tz_iinc 5 1, tz_goto 5]
  | 6 => [tz_aload 0, tz_iconst 0, tz_put SH 7 30, tz_iload 2, tz_if_ne 7, tz_iload 3, tz_if_eq 7, tz_aload 0, tz_iconst 1, tz_cv SH 1 7 2 C_Mo_answerR, tz_goto 10]
  | 7 => [tz_iload 2, tz_if_ne 8, tz_aload 0, tz_get SH 7 25, tz_iconst 0, tz_iald SH, tz_if_eq 9, tz_fall 8]
  | 8 => [tz_aload 0, tz_iconst 2, tz_cv SH 1 7 2 C_Mo_answerR, tz_goto 10]
  | 9 => [tz_aload 0, tz_aload 0, tz_get SH 7 25, tz_iconst 1, tz_iald SH, tz_aload 0, tz_get SH 7 25, tz_iconst 2, tz_iald SH, tz_cv SH 2 7 3 C_Mo_work, tz_fall 10]
  | 10 => [tz_vret]
  | _ => []
def bp_Mo_take : Nat → Nat := fun b => match b with
  | 0 => 0
  | 1 => 38
  | 2 => 39
  | 3 => 67
  | 4 => 68
  | 5 => 79
  | 6 => 102
  | 7 => 123
  | 8 => 136
  | 9 => 144
  | 10 => 160
  | _ => 0
set_option maxRecDepth 100000 in
set_option maxHeartbeats 4000000 in
theorem sd_Mo_take (X : rz_X) (G : rz_Cx CL X c_Mo_take 6 rz_tbl R_Mo ({ frames := 6, cells := 0, slots := 0, locals := 138 })) : ∀ b, rz_SB SH CL X bp_Mo_take (rz_RV SH CL X c_Mo_take) (bk_Mo_take b) (bp_Mo_take b) := fun b => match b with
  | 0 => (rz_cons (rz_aload_n G d_Mo_take_0 rfl) (rz_cons (rz_get G rfl in_Mo (by decide) wd_644 d_Mo_take_1) (rz_cons (rz_aload_n G d_Mo_take_4 rfl) (rz_cons (rz_get G rfl in_Mo (by decide) wd_649 d_Mo_take_5) (rz_cons (rz_iload_n G d_Mo_take_8 rfl) (rz_cons (rz_iast G d_Mo_take_9) (rz_cons (rz_aload_n G d_Mo_take_10 rfl) (rz_cons (rz_dup G d_Mo_take_11) (rz_cons (rz_get G rfl in_Mo (by decide) wd_649 d_Mo_take_12) (rz_cons (rz_iconst G d_Mo_take_15 (by decide)) (rz_cons (rz_iadd G d_Mo_take_16) (rz_cons (rz_put G rfl in_Mo ty_Mo tyok_Mo nm_Mo (by decide) rfl (by decide +kernel) wd_649 d_Mo_take_17) (rz_cons (rz_aload_n G d_Mo_take_20 rfl) (rz_cons (rz_get G rfl in_Mo (by decide) wd_649 d_Mo_take_21) (rz_cons (rz_iconst G d_Mo_take_24 (by decide)) (rz_cons (rz_icmp_ne G d_Mo_take_25 (by decide)) (rz_cons (rz_iload_n G d_Mo_take_28 rfl) (rz_cons (rz_bipush G d_Mo_take_29 (by decide)) (rz_cons (rz_icmp_le G d_Mo_take_31 (by decide)) (rz_cons (rz_iconst G d_Mo_take_34 (by decide)) (rz_cons (rz_goto (npc := 0) G d_Mo_take_35 (by decide)) rz_nil)))))))))))))))))))))
  | 1 => (rz_cons (rz_iconst G d_Mo_take_38 (by decide)) (rz_fall rfl))
  | 2 => (rz_cons (rz_istore_n G d_Mo_take_39 rfl (by decide)) (rz_cons (rz_iload_n G d_Mo_take_40 rfl) (rz_cons (rz_if_ne G d_Mo_take_41 (by decide)) (rz_cons (rz_aload_n G d_Mo_take_44 rfl) (rz_cons (rz_get G rfl in_Mo (by decide) wd_649 d_Mo_take_45) (rz_cons (rz_iconst G d_Mo_take_48 (by decide)) (rz_cons (rz_icmp_lt G d_Mo_take_49 (by decide)) (rz_cons (rz_aload_n G d_Mo_take_52 rfl) (rz_cons (rz_get G rfl in_Mo (by decide) wd_649 d_Mo_take_53) (rz_cons (rz_aload_n G d_Mo_take_56 rfl) (rz_cons (rz_get G rfl in_Mo (by decide) wd_644 d_Mo_take_57) (rz_cons (rz_iconst G d_Mo_take_60 (by decide)) (rz_cons (rz_iald G d_Mo_take_61) (rz_cons (rz_iconst G d_Mo_take_62 (by decide)) (rz_cons (rz_iadd G d_Mo_take_63) (rz_cons (rz_icmp_ge G d_Mo_take_64 (by decide)) (rz_fall rfl)))))))))))))))))
  | 3 => (rz_cons (rz_vret (npc := 0) d_Mo_take_67) rz_nil)
  | 4 => (rz_cons (rz_iconst G d_Mo_take_68 (by decide)) (rz_cons (rz_istore_n G d_Mo_take_69 rfl (by decide)) (rz_cons (rz_aload_n G d_Mo_take_70 rfl) (rz_cons (rz_get G rfl in_Mo (by decide) wd_649 d_Mo_take_71) (rz_cons (rz_istore G d_Mo_take_74 (by decide)) (rz_cons (rz_iconst G d_Mo_take_76 (by decide)) (rz_cons (rz_istore G d_Mo_take_77 (by decide)) (rz_fall rfl))))))))
  | 5 => (rz_cons (rz_iload G d_Mo_take_79) (rz_cons (rz_iload G d_Mo_take_81) (rz_cons (rz_icmp_ge G d_Mo_take_83 (by decide)) (rz_cons (rz_iload_n G d_Mo_take_86 rfl) (rz_cons (rz_aload_n G d_Mo_take_87 rfl) (rz_cons (rz_get G rfl in_Mo (by decide) wd_644 d_Mo_take_88) (rz_cons (rz_iload G d_Mo_take_91) (rz_cons (rz_iald G d_Mo_take_93) (rz_cons (rz_ixor G d_Mo_take_94) (rz_cons (rz_istore_n G d_Mo_take_95 rfl (by decide)) (rz_cons (rz_iinc G d_Mo_take_96 (by decide) (by decide)) (rz_cons (rz_goto (npc := 0) G d_Mo_take_99 (by decide)) rz_nil))))))))))))
  | 6 => (rz_cons (rz_aload_n G d_Mo_take_102 rfl) (rz_cons (rz_iconst G d_Mo_take_103 (by decide)) (rz_cons (rz_put G rfl in_Mo ty_Mo tyok_Mo nm_Mo (by decide) rfl (by decide +kernel) wd_649 d_Mo_take_104) (rz_cons (rz_iload_n G d_Mo_take_107 rfl) (rz_cons (rz_if_ne G d_Mo_take_108 (by decide)) (rz_cons (rz_iload_n G d_Mo_take_111 rfl) (rz_cons (rz_if_eq G d_Mo_take_112 (by decide)) (rz_cons (rz_aload_n G d_Mo_take_115 rfl) (rz_cons (rz_iconst G d_Mo_take_116 (by decide)) (rz_cons (rz_cvv G (m_Mo_answerR X.1) cd_Mo_answerR wd_776 wd_778 wd_24 rfl rfl (by decide) d_Mo_take_117) (rz_cons (rz_goto (npc := 0) G d_Mo_take_120 (by decide)) rz_nil)))))))))))
  | 7 => (rz_cons (rz_iload_n G d_Mo_take_123 rfl) (rz_cons (rz_if_ne G d_Mo_take_124 (by decide)) (rz_cons (rz_aload_n G d_Mo_take_127 rfl) (rz_cons (rz_get G rfl in_Mo (by decide) wd_644 d_Mo_take_128) (rz_cons (rz_iconst G d_Mo_take_131 (by decide)) (rz_cons (rz_iald G d_Mo_take_132) (rz_cons (rz_if_eq G d_Mo_take_133 (by decide)) (rz_fall rfl))))))))
  | 8 => (rz_cons (rz_aload_n G d_Mo_take_136 rfl) (rz_cons (rz_iconst G d_Mo_take_137 (by decide)) (rz_cons (rz_cvv G (m_Mo_answerR X.1) cd_Mo_answerR wd_776 wd_778 wd_24 rfl rfl (by decide) d_Mo_take_138) (rz_cons (rz_goto (npc := 0) G d_Mo_take_141 (by decide)) rz_nil))))
  | 9 => (rz_cons (rz_aload_n G d_Mo_take_144 rfl) (rz_cons (rz_aload_n G d_Mo_take_145 rfl) (rz_cons (rz_get G rfl in_Mo (by decide) wd_644 d_Mo_take_146) (rz_cons (rz_iconst G d_Mo_take_149 (by decide)) (rz_cons (rz_iald G d_Mo_take_150) (rz_cons (rz_aload_n G d_Mo_take_151 rfl) (rz_cons (rz_get G rfl in_Mo (by decide) wd_644 d_Mo_take_152) (rz_cons (rz_iconst G d_Mo_take_155 (by decide)) (rz_cons (rz_iald G d_Mo_take_156) (rz_cons (rz_cvv G (m_Mo_work X.1) cd_Mo_work wd_784 wd_786 wd_26 rfl rfl (by decide) d_Mo_take_157) (rz_fall rfl)))))))))))
  | 10 => (rz_cons (rz_vret (npc := 0) d_Mo_take_160) rz_nil)
  | _ + 11 => rz_nil
set_option maxRecDepth 100000 in
set_option maxHeartbeats 4000000 in
theorem bd_Mo_take : ∀ (Y : Nat → rz_K) (P : rz_P), (∀ b ls st μ, rz_ex P Y (bk_Mo_take b) ls st μ → Y b ls st μ) → ∀ As μ, C_Mo_take As μ P → Y 0 (rz_pad 6 (rz_ent As)) [] μ := by
  intro Y P hY As μ hC
  obtain ⟨v, rfl, ⟨⟨m, hm, e⟩, hO, hW⟩, hC⟩ := hC
  have cm : (μ 19 30).toNatClampNeg = m := nc e (by omega)
  have e1 : μ 19 30 + 1 = nI (m + 1) := by rw [e, nI_succ]
  have six : ∀ (t : Int32) (i : Nat), t = b2 (p_tm v μ) → p_go v μ → Y 6 [some (.ref 19), some (.int v), some (.int t), some (.int (xs (g_b1 v μ 27) (m + 1))), some (.int (μ 19 30 + 1)), some (.int (nI i))] [] (g_b1 v μ) := by
    intro t i ht hgo
    have hC := rzT (P none) hgo hC
    rw [cm] at hC
    have seven : ¬ (¬ p_tm v μ ∧ ¬ xs (g_b1 v μ 27) (m + 1) = 0) → Y 7 [some (.ref 19), some (.int v), some (.int t), some (.int (xs (g_b1 v μ 27) (m + 1))), some (.int (μ 19 30 + 1)), some (.int (nI i))] [] (g_b2 v μ) := by
      intro hn
      have hC := rzF (P none) hn hC
      refine hY 7 _ _ _ (And.intro (fun h => ?_) (fun h => And.intro (vi_c (by decide)) (And.intro (fun (h2 : g_b1 v μ 27 0 = 0) => ?_) (fun (h2 : ¬ g_b1 v μ 27 0 = 0) => ?_))))
      · rw [ht] at h
        exact hY 8 _ _ _ ⟨_, rfl, hY 10 _ _ _ (rzT (P none) (Or.inl (b2_ne h)) hC)⟩
      · rw [ht] at h
        have htm := b2_eq h
        have hC := rzF (P none) (fun q => q.elim htm (fun q => q h2)) hC
        obtain ⟨⟨l, hl, el⟩, hWP⟩ := hW hgo htm
        obtain ⟨p, hp, ep⟩ := hO 1
        have cp : (g_b1 v μ 27 1).toNatClampNeg = p := nc ep (by omega)
        have cl : (g_b1 v μ 27 2).toNatClampNeg = l := nc el (by omega)
        rw [cp, cl] at hC hWP
        refine hY 9 _ _ _ (And.intro (vi_c (by decide)) (And.intro (vi_c (by decide)) ⟨p, l, ?_, by omega, hl, hWP, hY 10 _ _ _ hC⟩))
        show [Value.ref 19, Value.int (g_b1 v μ 27 1), Value.int (g_b1 v μ 27 2)] = _
        rw [ep, el]
      · exact hY 8 _ _ _ ⟨_, rfl, hY 10 _ _ _ (rzT (P none) (Or.inr h2) hC)⟩
    refine hY 6 _ _ _ (And.intro (fun h => seven (fun q => ?_)) (fun h => And.intro (fun h2 => seven (fun q => q.2 h2)) (fun h2 => ?_)))
    · rw [ht] at h
      exact q.1 (b2_ne h)
    · rw [ht] at h
      exact ⟨_, rfl, hY 10 _ _ _ (rzT (P none) ⟨b2_eq h, h2⟩ hC)⟩
  have loop : ∀ (t : Int32) (d i : Nat), i + d = m + 1 → t = b2 (p_tm v μ) → p_go v μ → Y 5 [some (.ref 19), some (.int v), some (.int t), some (.int (xs (g_b1 v μ 27) i)), some (.int (μ 19 30 + 1)), some (.int (nI i))] [] (g_b1 v μ) := by
    intro t d
    induction d with
    | zero =>
      intro i hi ht hgo
      have : i = m + 1 := by omega
      subst this
      refine hY 5 _ _ _ (And.intro (fun _ => six t _ ht hgo) (fun h => absurd ?_ h))
      rw [e1]; exact Int32.le_refl _
    | succ d ih =>
      intro i hi ht hgo
      refine hY 5 _ _ _ (And.intro (fun h => absurd h ?_) (fun _ => And.intro (vp_in_nI (by omega) (by omega)) ?_))
      · rw [e1]; exact nI_ge (by omega) (by omega)
      · rw [nI_clamp (by omega)]
        have := ih (i + 1) (by omega) ht hgo
        rw [nI_succ] at this
        exact this
  have two : ∀ t : Int32, t = b2 (p_tm v μ) → Y 2 [some (.ref 19), some (.int v), none, none, none, none] [.int t] (g_b1 v μ) := by
    intro t ht
    have four : p_go v μ → Y 4 [some (.ref 19), some (.int v), some (.int t), none, none, none] [] (g_b1 v μ) := by
      intro hgo
      exact hY 4 _ _ _ (loop t (m + 1) 0 (by omega) ht hgo)
    refine hY 2 _ _ _ (And.intro (fun h => four (Or.inl (by rw [ht] at h; exact b2_ne h))) (fun h => And.intro (fun (h2 : μ 19 30 + 1 < 4) => hY 3 _ _ _ (rzF (P none) (fun q => ?_) hC)) (fun (h2 : ¬ μ 19 30 + 1 < 4) => And.intro (vi_c (by decide)) (And.intro (fun (h3 : g_b1 v μ 27 2 + 4 ≤ μ 19 30 + 1) => four (Or.inr ⟨h2, h3⟩)) (fun (h3 : ¬ g_b1 v μ 27 2 + 4 ≤ μ 19 30 + 1) => hY 3 _ _ _ (rzF (P none) (fun q => ?_) hC))))))
    · rw [ht] at h
      exact q.elim (b2_eq h) (fun q => q.1 h2)
    · rw [ht] at h
      exact q.elim (b2_eq h) (fun q => h3 q.2)
  refine hY 0 _ _ _ (And.intro ?_ (And.intro (fun (h : ¬ μ 19 30 + 1 = 3) => hY 1 _ _ _ (two 0 ?_)) (fun (h : μ 19 30 + 1 = 3) => And.intro (fun (h2 : v ≤ 32) => hY 1 _ _ _ (two 0 ?_)) (fun (h2 : ¬ v ≤ 32) => two 1 ?_))))
  · show vp_in (μ 19 30) 40
    rw [e]; exact vp_in_nI (by omega) (by omega)
  · exact (b2_neg (fun q => h q.1)).symm
  · exact (b2_neg (fun q => q.2 h2)).symm
  · exact (b2_pos ⟨h, h2⟩).symm
theorem m_Mo_take (E : rz_E) : rz_MV SH CL E y_Mo_take 6 (Cond.code y_Mo_take c_Mo_take 6 none :: rz_tbl) ({ frames := 6, cells := 0, slots := 0, locals := 138 }) C_Mo_take := rz_metV (by decide) rfl (fun X _ G => sd_Mo_take X G) bd_Mo_take
theorem cd_Mo_take : rz_Cd rz_tbl y_Mo_take c_Mo_take 6 none (Cond.code y_Mo_take c_Mo_take 6 none :: rz_tbl) 1 ({ frames := 6, cells := 0, slots := 0, locals := 138 }) := ⟨rz_good wd_775, ⟨_, rfl⟩, wd_47, by decide +kernel, rfl, rfl⟩
def w_oct (w : Int64) (k : Int32) : Int32 := ((w.toUInt64 >>> ((8 * k).toInt64.toUInt64 &&& Int64.toUInt64 63)).toInt64 &&& 255).toInt32
def g_fd (w : Int64) : Nat → Nat → rz_M → rz_M
  | 0, _, μ => μ
  | d + 1, i, μ => if μ 19 17 = 0 then μ else g_fd w d (i + 1) (g_take (w_oct w (nI i)) μ)
def OKT_fd (w : Int64) : Nat → Nat → rz_M → Prop
  | 0, _, _ => True
  | d + 1, i, μ => μ 19 17 = 0 ∨ (IT1 (w_oct w (nI i)) μ ∧ OKT_fd w d (i + 1) (g_take (w_oct w (nI i)) μ))
def g_feed (w : Int64) (n : Int32) (μ : rz_M) : Int32 × rz_M := if ¬ n < 1 ∧ ¬ 8 < n then (if ¬ μ 19 17 = 0 then (if g_fd w n.toNatClampNeg 0 μ 19 17 = 0 then (0, g_fd w n.toNatClampNeg 0 μ) else (g_fd w n.toNatClampNeg 0 μ 19 30, g_fd w n.toNatClampNeg 0 μ)) else (-3, μ)) else (-1, μ)
def C_Mo_feed : rz_C := fun As μ P => ∃ (w : Int64) (n : Int32), As = [.ref 19, .long w, .int n] ∧ (¬ n < 1 ∧ ¬ 8 < n → ¬ μ 19 17 = 0 → OKT_fd w n.toNatClampNeg 0 μ) ∧ PQ P (g_feed w n μ)
def bk_Mo_feed : Nat → List rz_T := fun b => match b with
  | 0 => [tz_iload 3, tz_iconst 1, tz_bipush 8, tz_cs 3 3 C_Mo_within, tz_if_ne 1, tz_iconst (-1), tz_iret]
  | 1 => [tz_aload 0, tz_get SH 7 17, tz_if_ne 2, tz_bipush (-3), tz_iret]
  | 2 => [tz_iconst 0, tz_istore 4, tz_fall 3]
  | 3 => [tz_iload 4, tz_iload 3, tz_icmp_ge 4, tz_aload 0, tz_get SH 7 17, tz_if_eq 4, tz_aload 0, tz_lload 1, tz_bipush 8, tz_iload 4, tz_imul, tz_lushr, tz_ldc2 255, tz_land, tz_l2i, tz_cv SH 1 7 6 C_Mo_take, tz_iinc 4 1, tz_goto 3]
  | 4 => [tz_aload 0, tz_get SH 7 17, tz_if_eq 5, tz_aload 0, tz_get SH 7 30, tz_goto 6]
  | 5 => [tz_iconst 0, tz_fall 6]
  | 6 => [tz_iret]
  | _ => []
def bp_Mo_feed : Nat → Nat := fun b => match b with
  | 0 => 0
  | 1 => 12
  | 2 => 22
  | 3 => 25
  | 4 => 60
  | 5 => 74
  | 6 => 75
  | _ => 0
set_option maxRecDepth 100000 in
set_option maxHeartbeats 4000000 in
theorem sd_Mo_feed (X : rz_X) (G : rz_Cx CL X c_Mo_feed 5 rz_tbl R_Mo ({ frames := 7, cells := 0, slots := 0, locals := 163 })) : ∀ b, rz_SB SH CL X bp_Mo_feed (rz_RI SH CL X c_Mo_feed (fun v => narrow .int (.int v) = .int v)) (bk_Mo_feed b) (bp_Mo_feed b) := fun b => match b with
  | 0 => (rz_cons (rz_iload_n G d_Mo_feed_0 rfl) (rz_cons (rz_iconst G d_Mo_feed_1 (by decide)) (rz_cons (rz_bipush G d_Mo_feed_2 (by decide)) (rz_cons (rz_csi G (m_Mo_within X.1) cd_Mo_within wd_735 wd_736 (by decide) d_Mo_feed_4) (rz_cons (rz_if_ne G d_Mo_feed_7 (by decide)) (rz_cons (rz_iconst G d_Mo_feed_10 (by decide)) (rz_cons (rz_iret (npc := 0) (fun _ => rfl) d_Mo_feed_11) rz_nil)))))))
  | 1 => (rz_cons (rz_aload_n G d_Mo_feed_12 rfl) (rz_cons (rz_get G rfl in_Mo (by decide) wd_636 d_Mo_feed_13) (rz_cons (rz_if_ne G d_Mo_feed_16 (by decide)) (rz_cons (rz_bipush G d_Mo_feed_19 (by decide)) (rz_cons (rz_iret (npc := 0) (fun _ => rfl) d_Mo_feed_21) rz_nil)))))
  | 2 => (rz_cons (rz_iconst G d_Mo_feed_22 (by decide)) (rz_cons (rz_istore G d_Mo_feed_23 (by decide)) (rz_fall rfl)))
  | 3 => (rz_cons (rz_iload G d_Mo_feed_25) (rz_cons (rz_iload_n G d_Mo_feed_27 rfl) (rz_cons (rz_icmp_ge G d_Mo_feed_28 (by decide)) (rz_cons (rz_aload_n G d_Mo_feed_31 rfl) (rz_cons (rz_get G rfl in_Mo (by decide) wd_636 d_Mo_feed_32) (rz_cons (rz_if_eq G d_Mo_feed_35 (by decide)) (rz_cons (rz_aload_n G d_Mo_feed_38 rfl) (rz_cons (rz_lload_n G d_Mo_feed_39 rfl) (rz_cons (rz_bipush G d_Mo_feed_40 (by decide)) (rz_cons (rz_iload G d_Mo_feed_42) (rz_cons (rz_imul G d_Mo_feed_44) (rz_cons (rz_lushr G d_Mo_feed_45) (rz_cons (rz_ldc2 G wd_771 d_Mo_feed_46) (rz_cons (rz_land G d_Mo_feed_49) (rz_cons (rz_l2i G d_Mo_feed_50) (rz_cons (rz_cvv G (m_Mo_take X.1) cd_Mo_take wd_772 wd_774 wd_23 rfl rfl (by decide) d_Mo_feed_51) (rz_cons (rz_iinc G d_Mo_feed_54 (by decide) (by decide)) (rz_cons (rz_goto (npc := 0) G d_Mo_feed_57 (by decide)) rz_nil))))))))))))))))))
  | 4 => (rz_cons (rz_aload_n G d_Mo_feed_60 rfl) (rz_cons (rz_get G rfl in_Mo (by decide) wd_636 d_Mo_feed_61) (rz_cons (rz_if_eq G d_Mo_feed_64 (by decide)) (rz_cons (rz_aload_n G d_Mo_feed_67 rfl) (rz_cons (rz_get G rfl in_Mo (by decide) wd_649 d_Mo_feed_68) (rz_cons (rz_goto (npc := 0) G d_Mo_feed_71 (by decide)) rz_nil))))))
  | 5 => (rz_cons (rz_iconst G d_Mo_feed_74 (by decide)) (rz_fall rfl))
  | 6 => (rz_cons (rz_iret (npc := 0) (fun _ => rfl) d_Mo_feed_75) rz_nil)
  | _ + 7 => rz_nil
set_option maxRecDepth 100000 in
set_option maxHeartbeats 4000000 in
theorem bd_Mo_feed : ∀ (Y : Nat → rz_K) (P : rz_P), (∀ b ls st μ, rz_ex P Y (bk_Mo_feed b) ls st μ → Y b ls st μ) → ∀ As μ, C_Mo_feed As μ P → Y 0 (rz_pad 5 (rz_ent As)) [] μ := by
  intro Y P hY As μ hC
  obtain ⟨w, n, rfl, hok, hC⟩ := hC
  refine hY 0 _ _ _ ⟨_, _, _, rfl, And.intro (fun h => ?_) (fun h => rzF (PQ P) (b2_eq h) hC)⟩
  have hq := b2_ne h
  have hC := rzT (PQ P) hq hC
  refine hY 1 _ _ _ (And.intro (fun h3 => ?_) (fun h => rzN (PQ P) h hC))
  have hC := rzT (PQ P) h3 hC
  have hok := hok hq h3
  obtain ⟨nn, hn31, hn⟩ := nI_of (x := n) (fun q => hq.1 (Int32.lt_trans q (by decide)))
  have hn8 : nn ≤ 8 := by
    have h8 := hq.2
    rw [hn] at h8
    rcases Nat.lt_or_ge 8 nn with r | r
    · exact absurd (nI_lt (a := 8) r hn31) h8
    · exact r
  rw [nc hn hn31] at hok hC
  have four : ∀ (i : Nat) (ν : rz_M), PQ P (if ν 19 17 = 0 then (0, ν) else (ν 19 30, ν)) → Y 4 [some (.ref 19), some (.long w), none, some (.int n), some (.int (nI i))] [] ν := by
    intro i ν hp
    refine hY 4 _ _ _ (And.intro (fun h => hY 5 _ _ _ (hY 6 _ _ _ (rzT (PQ P) h hp))) (fun h => hY 6 _ _ _ (rzF (PQ P) h hp)))
  have loop : ∀ (d i : Nat) (ν : rz_M), i + d = nn → OKT_fd w d i ν → PQ P (if g_fd w d i ν 19 17 = 0 then (0, g_fd w d i ν) else (g_fd w d i ν 19 30, g_fd w d i ν)) → Y 3 [some (.ref 19), some (.long w), none, some (.int n), some (.int (nI i))] [] ν := by
    intro d
    induction d with
    | zero =>
      intro i ν hi _ hp
      have : i = nn := by omega
      subst this
      refine hY 3 _ _ _ (And.intro (fun _ => four _ _ hp) (fun h => absurd ?_ h))
      rw [hn]; exact Int32.le_refl _
    | succ d ih =>
      intro i ν hi hk hp
      refine hY 3 _ _ _ (And.intro (fun h => absurd h ?_) (fun _ => And.intro (fun h => ?_) (fun h => ?_)))
      · rw [hn]; exact nI_ge (by omega) (by omega)
      · unfold g_fd at hp
        rw [if_pos h] at hp
        exact four _ _ hp
      · unfold g_fd at hp
        rw [if_neg h] at hp
        obtain ⟨h1, h2⟩ := hk.resolve_left h
        have nx := ih (i + 1) _ (by omega) h2 hp
        rw [nI_succ] at nx
        exact ⟨_, rfl, h1, nx⟩
  exact hY 2 _ _ _ (loop nn 0 μ (by omega) hok hC)
theorem m_Mo_feed (E : rz_E) : rz_MI SH CL E y_Mo_feed 5 (Cond.code y_Mo_feed c_Mo_feed 5 (some .int) :: rz_tbl) ({ frames := 7, cells := 0, slots := 0, locals := 163 }) C_Mo_feed := rz_metI (by decide) rfl (fun X _ G => sd_Mo_feed X G) bd_Mo_feed
theorem cd_Mo_feed : rz_Cd rz_tbl y_Mo_feed c_Mo_feed 5 (some .int) (Cond.code y_Mo_feed c_Mo_feed 5 (some .int) :: rz_tbl) 2 ({ frames := 7, cells := 0, slots := 0, locals := 163 }) := ⟨rz_good wd_770, ⟨_, rfl⟩, wd_47, by decide +kernel, rfl, rfl⟩
/-- the n OCTETS of w come; the sum goes along -/
def g_bl (w : Int64) : Nat → Nat → Int32 → rz_M → Int32 × rz_M
  | 0, _, s, μ => (s, μ)
  | d + 1, i, s, μ => g_bl w d (i + 1) (s ^^^ w_oct w (nI i)) (g_take (w_oct w (nI i)) μ)
def OK_bl (w : Int64) : Nat → Nat → Int32 → rz_M → Prop
  | 0, _, s, μ => IT1 s μ
  | d + 1, i, s, μ => IT1 (w_oct w (nI i)) μ ∧ OK_bl w d (i + 1) (s ^^^ w_oct w (nI i)) (g_take (w_oct w (nI i)) μ)
def g_h1 (μ : rz_M) : rz_M := g_take 0 (rz_up μ 19 30 0)
def g_h2 (p : Int32) (μ : rz_M) : rz_M := g_take p (g_h1 μ)
def g_h3 (p n : Int32) (μ : rz_M) : rz_M := g_take n (g_h2 p μ)
def g_bk (p : Int32) (w : Int64) (n : Int32) (μ : rz_M) : Int32 × rz_M := g_bl w n.toNatClampNeg 0 (p ^^^ n) (g_h3 p n μ)
def g_bk1 (p : Int32) (w : Int64) (n : Int32) (μ : rz_M) : rz_M := g_take (g_bk p w n μ).1 (g_bk p w n μ).2
def g_block (p : Int32) (w : Int64) (n : Int32) (μ : rz_M) : Int32 × rz_M := if (¬ p < 0 ∧ ¬ 255 < p) ∧ (¬ n < 0 ∧ ¬ 8 < n) then (if ¬ μ 19 17 = 0 then (if g_bk1 p w n μ 19 17 = 0 then (0, g_bk1 p w n μ) else (g_bk1 p w n μ 19 34, g_bk1 p w n μ)) else (-3, μ)) else (-1, μ)
def C_Mo_block : rz_C := fun As μ P => ∃ (p : Int32) (w : Int64) (n : Int32), As = [.ref 19, .int p, .long w, .int n] ∧ ((¬ p < 0 ∧ ¬ 255 < p) ∧ (¬ n < 0 ∧ ¬ 8 < n) → ¬ μ 19 17 = 0 → IT1 0 (rz_up μ 19 30 0) ∧ IT1 p (g_h1 μ) ∧ IT1 n (g_h2 p μ) ∧ OK_bl w n.toNatClampNeg 0 (p ^^^ n) (g_h3 p n μ)) ∧ PQ P (g_block p w n μ)
def bk_Mo_block : Nat → List rz_T := fun b => match b with
  | 0 => [tz_iload 1, tz_iconst 0, tz_sipush 255, tz_cs 3 3 C_Mo_within, tz_if_eq 1, tz_iload 4, tz_iconst 0, tz_bipush 8, tz_cs 3 3 C_Mo_within, tz_if_ne 2, tz_fall 1]
  | 1 => [tz_iconst (-1), tz_iret]
  | 2 => [tz_aload 0, tz_get SH 7 17, tz_if_ne 3, tz_bipush (-3), tz_iret]
  | 3 => [tz_aload 0, tz_iconst 0, tz_put SH 7 30, tz_iload 1, tz_iload 4, tz_ixor, tz_istore 5, tz_aload 0, tz_iconst 0, tz_cv SH 1 7 6 C_Mo_take, tz_aload 0, tz_iload 1, tz_cv SH 1 7 6 C_Mo_take, tz_aload 0, tz_iload 4, tz_cv SH 1 7 6 C_Mo_take, tz_iconst 0, tz_istore 6, tz_fall 4]
  | 4 => [tz_iload 6, tz_iload 4, tz_icmp_ge 5, tz_lload 2, tz_bipush 8, tz_iload 6, tz_imul, tz_lushr, tz_ldc2 255, tz_land, tz_l2i, tz_istore 7, tz_iload 5, tz_iload 7, tz_ixor, tz_istore 5, tz_aload 0, tz_iload 7, tz_cv SH 1 7 6 C_Mo_take, tz_iinc 6 1, tz_goto 4]
  | 5 => [tz_aload 0, tz_iload 5, tz_cv SH 1 7 6 C_Mo_take, tz_aload 0, tz_get SH 7 17, tz_if_eq 6, tz_aload 0, tz_get SH 7 34, tz_goto 7]
  | 6 => [tz_iconst 0, tz_fall 7]
  | 7 => [tz_iret]
  | _ => []
def bp_Mo_block : Nat → Nat := fun b => match b with
  | 0 => 0
  | 1 => 22
  | 2 => 24
  | 3 => 34
  | 4 => 64
  | 5 => 104
  | 6 => 124
  | 7 => 125
  | _ => 0
set_option maxRecDepth 100000 in
set_option maxHeartbeats 4000000 in
theorem sd_Mo_block (X : rz_X) (G : rz_Cx CL X c_Mo_block 8 rz_tbl R_Mo ({ frames := 7, cells := 0, slots := 0, locals := 163 })) : ∀ b, rz_SB SH CL X bp_Mo_block (rz_RI SH CL X c_Mo_block (fun v => narrow .int (.int v) = .int v)) (bk_Mo_block b) (bp_Mo_block b) := fun b => match b with
  | 0 => (rz_cons (rz_iload_n G d_Mo_block_0 rfl) (rz_cons (rz_iconst G d_Mo_block_1 (by decide)) (rz_cons (rz_sipush G d_Mo_block_2 (by decide)) (rz_cons (rz_csi G (m_Mo_within X.1) cd_Mo_within wd_735 wd_736 (by decide) d_Mo_block_5) (rz_cons (rz_if_eq G d_Mo_block_8 (by decide)) (rz_cons (rz_iload G d_Mo_block_11) (rz_cons (rz_iconst G d_Mo_block_13 (by decide)) (rz_cons (rz_bipush G d_Mo_block_14 (by decide)) (rz_cons (rz_csi G (m_Mo_within X.1) cd_Mo_within wd_735 wd_736 (by decide) d_Mo_block_16) (rz_cons (rz_if_ne G d_Mo_block_19 (by decide)) (rz_fall rfl)))))))))))
  | 1 => (rz_cons (rz_iconst G d_Mo_block_22 (by decide)) (rz_cons (rz_iret (npc := 0) (fun _ => rfl) d_Mo_block_23) rz_nil))
  | 2 => (rz_cons (rz_aload_n G d_Mo_block_24 rfl) (rz_cons (rz_get G rfl in_Mo (by decide) wd_636 d_Mo_block_25) (rz_cons (rz_if_ne G d_Mo_block_28 (by decide)) (rz_cons (rz_bipush G d_Mo_block_31 (by decide)) (rz_cons (rz_iret (npc := 0) (fun _ => rfl) d_Mo_block_33) rz_nil)))))
  | 3 => (rz_cons (rz_aload_n G d_Mo_block_34 rfl) (rz_cons (rz_iconst G d_Mo_block_35 (by decide)) (rz_cons (rz_put G rfl in_Mo ty_Mo tyok_Mo nm_Mo (by decide) rfl (by decide +kernel) wd_649 d_Mo_block_36) (rz_cons (rz_iload_n G d_Mo_block_39 rfl) (rz_cons (rz_iload G d_Mo_block_40) (rz_cons (rz_ixor G d_Mo_block_42) (rz_cons (rz_istore G d_Mo_block_43 (by decide)) (rz_cons (rz_aload_n G d_Mo_block_45 rfl) (rz_cons (rz_iconst G d_Mo_block_46 (by decide)) (rz_cons (rz_cvv G (m_Mo_take X.1) cd_Mo_take wd_772 wd_774 wd_23 rfl rfl (by decide) d_Mo_block_47) (rz_cons (rz_aload_n G d_Mo_block_50 rfl) (rz_cons (rz_iload_n G d_Mo_block_51 rfl) (rz_cons (rz_cvv G (m_Mo_take X.1) cd_Mo_take wd_772 wd_774 wd_23 rfl rfl (by decide) d_Mo_block_52) (rz_cons (rz_aload_n G d_Mo_block_55 rfl) (rz_cons (rz_iload G d_Mo_block_56) (rz_cons (rz_cvv G (m_Mo_take X.1) cd_Mo_take wd_772 wd_774 wd_23 rfl rfl (by decide) d_Mo_block_58) (rz_cons (rz_iconst G d_Mo_block_61 (by decide)) (rz_cons (rz_istore G d_Mo_block_62 (by decide)) (rz_fall rfl)))))))))))))))))))
  | 4 => (rz_cons (rz_iload G d_Mo_block_64) (rz_cons (rz_iload G d_Mo_block_66) (rz_cons (rz_icmp_ge G d_Mo_block_68 (by decide)) (rz_cons (rz_lload_n G d_Mo_block_71 rfl) (rz_cons (rz_bipush G d_Mo_block_72 (by decide)) (rz_cons (rz_iload G d_Mo_block_74) (rz_cons (rz_imul G d_Mo_block_76) (rz_cons (rz_lushr G d_Mo_block_77) (rz_cons (rz_ldc2 G wd_771 d_Mo_block_78) (rz_cons (rz_land G d_Mo_block_81) (rz_cons (rz_l2i G d_Mo_block_82) (rz_cons (rz_istore G d_Mo_block_83 (by decide)) (rz_cons (rz_iload G d_Mo_block_85) (rz_cons (rz_iload G d_Mo_block_87) (rz_cons (rz_ixor G d_Mo_block_89) (rz_cons (rz_istore G d_Mo_block_90 (by decide)) (rz_cons (rz_aload_n G d_Mo_block_92 rfl) (rz_cons (rz_iload G d_Mo_block_93) (rz_cons (rz_cvv G (m_Mo_take X.1) cd_Mo_take wd_772 wd_774 wd_23 rfl rfl (by decide) d_Mo_block_95) (rz_cons (rz_iinc G d_Mo_block_98 (by decide) (by decide)) (rz_cons (rz_goto (npc := 0) G d_Mo_block_101 (by decide)) rz_nil)))))))))))))))))))))
  | 5 => (rz_cons (rz_aload_n G d_Mo_block_104 rfl) (rz_cons (rz_iload G d_Mo_block_105) (rz_cons (rz_cvv G (m_Mo_take X.1) cd_Mo_take wd_772 wd_774 wd_23 rfl rfl (by decide) d_Mo_block_107) (rz_cons (rz_aload_n G d_Mo_block_110 rfl) (rz_cons (rz_get G rfl in_Mo (by decide) wd_636 d_Mo_block_111) (rz_cons (rz_if_eq G d_Mo_block_114 (by decide)) (rz_cons (rz_aload_n G d_Mo_block_117 rfl) (rz_cons (rz_get G rfl in_Mo (by decide) wd_653 d_Mo_block_118) (rz_cons (rz_goto (npc := 0) G d_Mo_block_121 (by decide)) rz_nil)))))))))
  | 6 => (rz_cons (rz_iconst G d_Mo_block_124 (by decide)) (rz_fall rfl))
  | 7 => (rz_cons (rz_iret (npc := 0) (fun _ => rfl) d_Mo_block_125) rz_nil)
  | _ + 8 => rz_nil
set_option maxRecDepth 100000 in
set_option maxHeartbeats 4000000 in
theorem bd_Mo_block : ∀ (Y : Nat → rz_K) (P : rz_P), (∀ b ls st μ, rz_ex P Y (bk_Mo_block b) ls st μ → Y b ls st μ) → ∀ As μ, C_Mo_block As μ P → Y 0 (rz_pad 8 (rz_ent As)) [] μ := by
  intro Y P hY As μ hC
  obtain ⟨p, w, n, rfl, hok, hC⟩ := hC
  refine hY 0 _ _ _ ⟨_, _, _, rfl, And.intro (fun h => hY 1 _ _ _ (rzF (PQ P) (fun q => b2_eq h q.1) hC)) (fun k1 => ⟨_, _, _, rfl, And.intro (fun k2 => ?_) (fun h => hY 1 _ _ _ (rzF (PQ P) (fun q => b2_eq h q.2) hC))⟩)⟩
  have hq : (¬ p < 0 ∧ ¬ 255 < p) ∧ (¬ n < 0 ∧ ¬ 8 < n) := ⟨b2_ne k1, b2_ne k2⟩
  have hC := rzT (PQ P) hq hC
  refine hY 2 _ _ _ (And.intro (fun h3 => ?_) (fun h => rzN (PQ P) h hC))
  have hC := rzT (PQ P) h3 hC
  obtain ⟨o1, o2, o3, o4⟩ := hok hq h3
  obtain ⟨nn, hn31, hn⟩ := nI_of hq.2.1
  have hn8 : nn ≤ 8 := by
    have h8 := hq.2.2
    rw [hn] at h8
    rcases Nat.lt_or_ge 8 nn with r | r
    · exact absurd (nI_lt (a := 8) r hn31) h8
    · exact r
  unfold g_bk1 g_bk at hC
  rw [nc hn hn31] at o4 hC
  have loop : ∀ (d i : Nat) (s : Int32) (y : Option Value) (ν : rz_M), i + d = nn → OK_bl w d i s ν → PQ P (if g_take (g_bl w d i s ν).1 (g_bl w d i s ν).2 19 17 = 0 then (0, g_take (g_bl w d i s ν).1 (g_bl w d i s ν).2) else (g_take (g_bl w d i s ν).1 (g_bl w d i s ν).2 19 34, g_take (g_bl w d i s ν).1 (g_bl w d i s ν).2)) → Y 4 [some (.ref 19), some (.int p), some (.long w), none, some (.int n), some (.int s), some (.int (nI i)), y] [] ν := by
    intro d
    induction d with
    | zero =>
      intro i s y ν hi hk hp
      have : i = nn := by omega
      subst this
      refine hY 4 _ _ _ (And.intro (fun _ => ?_) (fun h => absurd ?_ h))
      · exact hY 5 _ _ _ ⟨_, rfl, hk, And.intro (fun h => hY 6 _ _ _ (hY 7 _ _ _ (rzT (PQ P) h hp))) (fun h => hY 7 _ _ _ (rzF (PQ P) h hp))⟩
      · rw [hn]; exact Int32.le_refl _
    | succ d ih =>
      intro i s y ν hi hk hp
      refine hY 4 _ _ _ (And.intro (fun h => absurd h ?_) (fun _ => ?_))
      · rw [hn]; exact nI_ge (by omega) (by omega)
      · obtain ⟨h1, h2⟩ := hk
        have nx := ih (i + 1) _ (some (.int (w_oct w (nI i)))) _ (by omega) h2 hp
        rw [nI_succ] at nx
        exact ⟨_, rfl, h1, nx⟩
  exact hY 3 _ _ _ ⟨_, rfl, o1, _, rfl, o2, _, rfl, o3, loop nn 0 _ _ _ (by omega) o4 hC⟩
theorem m_Mo_block (E : rz_E) : rz_MI SH CL E y_Mo_block 8 (Cond.code y_Mo_block c_Mo_block 8 (some .int) :: rz_tbl) ({ frames := 7, cells := 0, slots := 0, locals := 163 }) C_Mo_block := rz_metI (by decide) rfl (fun X _ G => sd_Mo_block X G) bd_Mo_block
theorem cd_Mo_block : rz_Cd rz_tbl y_Mo_block c_Mo_block 8 (some .int) (Cond.code y_Mo_block c_Mo_block 8 (some .int) :: rz_tbl) 3 ({ frames := 7, cells := 0, slots := 0, locals := 163 }) := ⟨rz_good wd_840, ⟨_, rfl⟩, wd_47, by decide +kernel, rfl, rfl⟩
