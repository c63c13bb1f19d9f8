/-- how the COMMAND's OCTETS are read: data, expected -/
abbrev e_ok5 (μ : rz_M) : Prop := (¬ μ 28 4 < 1 ∧ ¬ 32 < μ 28 4) ∧ (μ 19 31 = 5 + μ 28 4 ∨ μ 19 31 = 6 + μ 28 4)
abbrev e_ok (μ : rz_M) : Prop := μ 19 19 = 0 ∧ 4 ≤ μ 19 31 ∧ (μ 19 31 ≤ 5 ∨ e_ok5 μ)
def e_d (μ : rz_M) : Int32 := if μ 19 31 ≤ 5 then 0 else μ 28 4
def e_x (μ : rz_M) : Int32 := if μ 19 31 = 5 then μ 28 4 else if μ 19 31 ≤ 5 then -1 else if μ 19 31 = 6 + μ 28 4 then μ 28 (μ 19 31 - 1).toNatClampNeg else -1
def v_pl (μ : rz_M) : Int32 := 256 * μ 28 2 + μ 28 3
def g_ins (d x : Int32) (μ : rz_M) : Int32 × rz_M := if μ 28 1 = 32 then g_tell (μ 28 2) (μ 28 3) d x μ else if μ 28 1 = 36 then g_renew (μ 28 2) (μ 28 3) d x μ else if μ 28 1 = 164 then g_fi (μ 28 2) (μ 28 3) d μ else if μ 28 1 = 176 then g_reads (v_pl μ) d x μ else if μ 28 1 = 214 then g_chg (v_pl μ) d x d.toNatClampNeg μ else (27904, μ)
def g_exe (μ : rz_M) : Int32 × rz_M := if e_ok μ then (if μ 28 0 = 0 then g_ins (e_d μ) (e_x μ) μ else (28160, μ)) else (26368, μ)
def IX (μ : rz_M) : Prop := (∃ c : Nat, μ 19 6 = nI c ∧ 1 ≤ c ∧ c ≤ 8) ∧ (∃ f : Nat, μ 19 20 = nI f ∧ f < 8) ∧ (∀ i, i < 8 → μ 21 i = -1 ∨ ∃ m : Nat, m < 8 ∧ μ 21 i = nI m) ∧ (0 ≤ μ 19 21 → μ 19 21 < 8) ∧ (∀ i, i < 8 → ∃ z : Nat, z ≤ 24 ∧ μ 22 i = nI z) ∧ μ 19 32 = 0 ∧ OCT (μ 28) ∧ (∃ l : Nat, l ≤ 40 ∧ μ 19 31 = nI l)
theorem v_pl_nI {μ : rz_M} (ho : OCT (μ 28)) : ∃ p : Nat, p ≤ 65535 ∧ v_pl μ = nI p := by
  obtain ⟨a, ha, ea⟩ := ho 2
  obtain ⟨b, hb, eb⟩ := ho 3
  refine ⟨256 * a + b, by omega, ?_⟩
  unfold v_pl
  rw [ea, eb, show (256 : Int32) = nI 256 from rfl, pk_mul, nI_add]
def C_Mo_execute : rz_C := fun As μ P => As = [.ref 19] ∧ IX μ ∧ PQ P (g_exe μ)
def bk_Mo_execute : Nat → List rz_T := fun b => match b with
  | 0 => [tz_aload 0, tz_get SH 7 31, tz_istore 1, tz_iconst 0, tz_istore 2, tz_iconst (-1), tz_istore 3, tz_aload 0, tz_get SH 7 19, tz_if_ne 1, tz_iload 1, tz_iconst 4, tz_icmp_ge 2, tz_fall 1]
  | 1 => [tz_sipush 26368, tz_iret]
  | 2 => [tz_iload 1, tz_iconst 5, tz_icmp_ne 3, tz_aload 0, tz_get SH 7 26, tz_iconst 4, tz_iald SH, tz_istore 3, tz_goto 6]
  | 3 => [tz_iload 1, tz_iconst 5, tz_icmp_le 6, tz_aload 0, tz_get SH 7 26, tz_iconst 4, tz_iald SH, tz_istore 2, tz_iload 2, tz_iconst 1, tz_bipush 32, tz_cs 3 3 C_Mo_within, tz_if_eq 4, tz_iload 1, tz_iconst 5, tz_iload 2, tz_iadd, tz_icmp_eq 5, tz_iload 1, tz_bipush 6, tz_iload 2, tz_iadd, tz_icmp_eq 5, tz_fall 4]
  | 4 => [tz_sipush 26368, tz_iret]
  | 5 => [tz_iload 1, tz_bipush 6, tz_iload 2, tz_iadd, tz_icmp_ne 6, tz_aload 0, tz_get SH 7 26, tz_iload 1, tz_iconst 1, tz_isub, tz_iald SH, tz_istore 3, tz_fall 6]
  | 6 => [tz_aload 0, tz_get SH 7 26, tz_iconst 0, tz_iald SH, tz_if_eq 7, tz_sipush 28160, tz_iret]
  | 7 => [tz_aload 0, tz_get SH 7 26, tz_iconst 2, tz_iald SH, tz_istore 4, tz_aload 0, tz_get SH 7 26, tz_iconst 3, tz_iald SH, tz_istore 5, tz_aload 0, tz_get SH 7 26, tz_iconst 1, tz_iald SH, tz_sw [(32, 11), (36, 12), (164, 8), (176, 9), (214, 10)] 13]
  | 8 => [tz_aload 0, tz_iload 4, tz_iload 5, tz_iload 2, tz_cv SH 3 7 7 C_Mo_find, tz_iret]
  | 9 => [tz_aload 0, tz_sipush 256, tz_iload 4, tz_imul, tz_iload 5, tz_iadd, tz_iload 2, tz_iload 3, tz_cv SH 3 7 8 C_Mo_reads, tz_iret]
  | 10 => [tz_aload 0, tz_sipush 256, tz_iload 4, tz_imul, tz_iload 5, tz_iadd, tz_iload 2, tz_iload 3, tz_cv SH 3 7 7 C_Mo_changes, tz_iret]
  | 11 => [tz_aload 0, tz_iload 4, tz_iload 5, tz_iload 2, tz_iload 3, tz_cv SH 4 7 7 C_Mo_tell, tz_iret]
  | 12 => [tz_aload 0, tz_iload 4, tz_iload 5, tz_iload 2, tz_iload 3, tz_cv SH 4 7 6 C_Mo_renew, tz_iret]
  | 13 => [tz_sipush 27904, tz_iret]
  | _ => []
def bp_Mo_execute : Nat → Nat := fun b => match b with
  | 0 => 0
  | 1 => 21
  | 2 => 25
  | 3 => 40
  | 4 => 77
  | 5 => 81
  | 6 => 98
  | 7 => 111
  | 8 => 184
  | 9 => 194
  | 10 => 210
  | 11 => 226
  | 12 => 237
  | 13 => 248
  | _ => 0
set_option maxRecDepth 100000 in
set_option maxHeartbeats 4000000 in
theorem sd_Mo_execute (X : rz_X) (G : rz_Cx CL X c_Mo_execute 6 rz_tbl R_Mo ({ frames := 3, cells := 0, slots := 0, locals := 68 })) : ∀ b, rz_SB SH CL X bp_Mo_execute (rz_RI SH CL X c_Mo_execute (fun v => narrow .int (.int v) = .int v)) (bk_Mo_execute b) (bp_Mo_execute b) := fun b => match b with
  | 0 => (rz_cons (rz_aload_n G d_Mo_execute_0 rfl) (rz_cons (rz_get G rfl in_Mo (by decide) wd_650 d_Mo_execute_1) (rz_cons (rz_istore_n G d_Mo_execute_4 rfl (by decide)) (rz_cons (rz_iconst G d_Mo_execute_5 (by decide)) (rz_cons (rz_istore_n G d_Mo_execute_6 rfl (by decide)) (rz_cons (rz_iconst G d_Mo_execute_7 (by decide)) (rz_cons (rz_istore_n G d_Mo_execute_8 rfl (by decide)) (rz_cons (rz_aload_n G d_Mo_execute_9 rfl) (rz_cons (rz_get G rfl in_Mo (by decide) wd_638 d_Mo_execute_10) (rz_cons (rz_if_ne G d_Mo_execute_13 (by decide)) (rz_cons (rz_iload_n G d_Mo_execute_16 rfl) (rz_cons (rz_iconst G d_Mo_execute_17 (by decide)) (rz_cons (rz_icmp_ge G d_Mo_execute_18 (by decide)) (rz_fall rfl))))))))))))))
  | 1 => (rz_cons (rz_sipush G d_Mo_execute_21 (by decide)) (rz_cons (rz_iret (npc := 0) (fun _ => rfl) d_Mo_execute_24) rz_nil))
  | 2 => (rz_cons (rz_iload_n G d_Mo_execute_25 rfl) (rz_cons (rz_iconst G d_Mo_execute_26 (by decide)) (rz_cons (rz_icmp_ne G d_Mo_execute_27 (by decide)) (rz_cons (rz_aload_n G d_Mo_execute_30 rfl) (rz_cons (rz_get G rfl in_Mo (by decide) wd_645 d_Mo_execute_31) (rz_cons (rz_iconst G d_Mo_execute_34 (by decide)) (rz_cons (rz_iald G d_Mo_execute_35) (rz_cons (rz_istore_n G d_Mo_execute_36 rfl (by decide)) (rz_cons (rz_goto (npc := 0) G d_Mo_execute_37 (by decide)) rz_nil)))))))))
  | 3 => (rz_cons (rz_iload_n G d_Mo_execute_40 rfl) (rz_cons (rz_iconst G d_Mo_execute_41 (by decide)) (rz_cons (rz_icmp_le G d_Mo_execute_42 (by decide)) (rz_cons (rz_aload_n G d_Mo_execute_45 rfl) (rz_cons (rz_get G rfl in_Mo (by decide) wd_645 d_Mo_execute_46) (rz_cons (rz_iconst G d_Mo_execute_49 (by decide)) (rz_cons (rz_iald G d_Mo_execute_50) (rz_cons (rz_istore_n G d_Mo_execute_51 rfl (by decide)) (rz_cons (rz_iload_n G d_Mo_execute_52 rfl) (rz_cons (rz_iconst G d_Mo_execute_53 (by decide)) (rz_cons (rz_bipush G d_Mo_execute_54 (by decide)) (rz_cons (rz_csi G (m_Mo_within X.1) cd_Mo_within wd_735 wd_736 (by decide) d_Mo_execute_56) (rz_cons (rz_if_eq G d_Mo_execute_59 (by decide)) (rz_cons (rz_iload_n G d_Mo_execute_62 rfl) (rz_cons (rz_iconst G d_Mo_execute_63 (by decide)) (rz_cons (rz_iload_n G d_Mo_execute_64 rfl) (rz_cons (rz_iadd G d_Mo_execute_65) (rz_cons (rz_icmp_eq G d_Mo_execute_66 (by decide)) (rz_cons (rz_iload_n G d_Mo_execute_69 rfl) (rz_cons (rz_bipush G d_Mo_execute_70 (by decide)) (rz_cons (rz_iload_n G d_Mo_execute_72 rfl) (rz_cons (rz_iadd G d_Mo_execute_73) (rz_cons (rz_icmp_eq G d_Mo_execute_74 (by decide)) (rz_fall rfl))))))))))))))))))))))))
  | 4 => (rz_cons (rz_sipush G d_Mo_execute_77 (by decide)) (rz_cons (rz_iret (npc := 0) (fun _ => rfl) d_Mo_execute_80) rz_nil))
  | 5 => (rz_cons (rz_iload_n G d_Mo_execute_81 rfl) (rz_cons (rz_bipush G d_Mo_execute_82 (by decide)) (rz_cons (rz_iload_n G d_Mo_execute_84 rfl) (rz_cons (rz_iadd G d_Mo_execute_85) (rz_cons (rz_icmp_ne G d_Mo_execute_86 (by decide)) (rz_cons (rz_aload_n G d_Mo_execute_89 rfl) (rz_cons (rz_get G rfl in_Mo (by decide) wd_645 d_Mo_execute_90) (rz_cons (rz_iload_n G d_Mo_execute_93 rfl) (rz_cons (rz_iconst G d_Mo_execute_94 (by decide)) (rz_cons (rz_isub G d_Mo_execute_95) (rz_cons (rz_iald G d_Mo_execute_96) (rz_cons (rz_istore_n G d_Mo_execute_97 rfl (by decide)) (rz_fall rfl)))))))))))))
  | 6 => (rz_cons (rz_aload_n G d_Mo_execute_98 rfl) (rz_cons (rz_get G rfl in_Mo (by decide) wd_645 d_Mo_execute_99) (rz_cons (rz_iconst G d_Mo_execute_102 (by decide)) (rz_cons (rz_iald G d_Mo_execute_103) (rz_cons (rz_if_eq G d_Mo_execute_104 (by decide)) (rz_cons (rz_sipush G d_Mo_execute_107 (by decide)) (rz_cons (rz_iret (npc := 0) (fun _ => rfl) d_Mo_execute_110) rz_nil)))))))
  | 7 => (rz_cons (rz_aload_n G d_Mo_execute_111 rfl) (rz_cons (rz_get G rfl in_Mo (by decide) wd_645 d_Mo_execute_112) (rz_cons (rz_iconst G d_Mo_execute_115 (by decide)) (rz_cons (rz_iald G d_Mo_execute_116) (rz_cons (rz_istore G d_Mo_execute_117 (by decide)) (rz_cons (rz_aload_n G d_Mo_execute_119 rfl) (rz_cons (rz_get G rfl in_Mo (by decide) wd_645 d_Mo_execute_120) (rz_cons (rz_iconst G d_Mo_execute_123 (by decide)) (rz_cons (rz_iald G d_Mo_execute_124) (rz_cons (rz_istore G d_Mo_execute_125 (by decide)) (rz_cons (rz_aload_n G d_Mo_execute_127 rfl) (rz_cons (rz_get G rfl in_Mo (by decide) wd_645 d_Mo_execute_128) (rz_cons (rz_iconst G d_Mo_execute_131 (by decide)) (rz_cons (rz_iald G d_Mo_execute_132) (rz_cons (rz_lookup (npc := 0) G d_Mo_execute_133 (by decide) (by decide +kernel) (by decide)) rz_nil)))))))))))))))
  | 8 => (rz_cons (rz_aload_n G d_Mo_execute_184 rfl) (rz_cons (rz_iload G d_Mo_execute_185) (rz_cons (rz_iload G d_Mo_execute_187) (rz_cons (rz_iload_n G d_Mo_execute_189 rfl) (rz_cons (rz_cvi G (m_Mo_find X.1) cd_Mo_find wd_796 wd_798 wd_29 rfl rfl (by decide) d_Mo_execute_190) (rz_cons (rz_iret (npc := 0) (fun _ => rfl) d_Mo_execute_193) rz_nil))))))
  | 9 => (rz_cons (rz_aload_n G d_Mo_execute_194 rfl) (rz_cons (rz_sipush G d_Mo_execute_195 (by decide)) (rz_cons (rz_iload G d_Mo_execute_198) (rz_cons (rz_imul G d_Mo_execute_200) (rz_cons (rz_iload G d_Mo_execute_201) (rz_cons (rz_iadd G d_Mo_execute_203) (rz_cons (rz_iload_n G d_Mo_execute_204 rfl) (rz_cons (rz_iload_n G d_Mo_execute_205 rfl) (rz_cons (rz_cvi G (m_Mo_reads X.1) cd_Mo_reads wd_801 wd_803 wd_30 rfl rfl (by decide) d_Mo_execute_206) (rz_cons (rz_iret (npc := 0) (fun _ => rfl) d_Mo_execute_209) rz_nil))))))))))
  | 10 => (rz_cons (rz_aload_n G d_Mo_execute_210 rfl) (rz_cons (rz_sipush G d_Mo_execute_211 (by decide)) (rz_cons (rz_iload G d_Mo_execute_214) (rz_cons (rz_imul G d_Mo_execute_216) (rz_cons (rz_iload G d_Mo_execute_217) (rz_cons (rz_iadd G d_Mo_execute_219) (rz_cons (rz_iload_n G d_Mo_execute_220 rfl) (rz_cons (rz_iload_n G d_Mo_execute_221 rfl) (rz_cons (rz_cvi G (m_Mo_changes X.1) cd_Mo_changes wd_813 wd_815 wd_33 rfl rfl (by decide) d_Mo_execute_222) (rz_cons (rz_iret (npc := 0) (fun _ => rfl) d_Mo_execute_225) rz_nil))))))))))
  | 11 => (rz_cons (rz_aload_n G d_Mo_execute_226 rfl) (rz_cons (rz_iload G d_Mo_execute_227) (rz_cons (rz_iload G d_Mo_execute_229) (rz_cons (rz_iload_n G d_Mo_execute_231 rfl) (rz_cons (rz_iload_n G d_Mo_execute_232 rfl) (rz_cons (rz_cvi G (m_Mo_tell X.1) cd_Mo_tell wd_817 wd_819 wd_34 rfl rfl (by decide) d_Mo_execute_233) (rz_cons (rz_iret (npc := 0) (fun _ => rfl) d_Mo_execute_236) rz_nil)))))))
  | 12 => (rz_cons (rz_aload_n G d_Mo_execute_237 rfl) (rz_cons (rz_iload G d_Mo_execute_238) (rz_cons (rz_iload G d_Mo_execute_240) (rz_cons (rz_iload_n G d_Mo_execute_242 rfl) (rz_cons (rz_iload_n G d_Mo_execute_243 rfl) (rz_cons (rz_cvi G (m_Mo_renew X.1) cd_Mo_renew wd_825 wd_827 wd_36 rfl rfl (by decide) d_Mo_execute_244) (rz_cons (rz_iret (npc := 0) (fun _ => rfl) d_Mo_execute_247) rz_nil)))))))
  | 13 => (rz_cons (rz_sipush G d_Mo_execute_248 (by decide)) (rz_cons (rz_iret (npc := 0) (fun _ => rfl) d_Mo_execute_251) rz_nil))
  | _ + 14 => rz_nil
set_option maxRecDepth 100000 in
set_option maxHeartbeats 4000000 in
theorem bd_Mo_execute : ∀ (Y : Nat → rz_K) (P : rz_P), (∀ b ls st μ, rz_ex P Y (bk_Mo_execute b) ls st μ → Y b ls st μ) → ∀ As μ, C_Mo_execute As μ P → Y 0 (rz_pad 6 (rz_ent As)) [] μ := by
  intro Y P hY As μ hC
  obtain ⟨rfl, ⟨⟨c, hc, c1, c8⟩, ⟨f, hf, hf8⟩, hpa, h8, hz, h32, ho, ⟨l, hl40, hl⟩⟩, hC⟩ := hC
  obtain ⟨p, hp16, hp⟩ := v_pl_nI ho
  obtain ⟨o4, ho4, eo4⟩ := ho 4
  have six : e_ok μ → ∀ (d x : Int32), d = e_d μ → x = e_x μ → Y 6 [some (.ref 19), some (.int (μ 19 31)), some (.int d), some (.int x), none, none] [] μ := by
    intro hok d x hd hx
    have hC := rzT (PQ P) hok hC
    rw [← hd, ← hx] at hC
    have hxe : x < 0 ∨ ∃ e : Nat, e ≤ 255 ∧ x = nI e := by
      rw [hx]
      unfold e_x
      split
      · exact Or.inr ⟨o4, ho4, eo4⟩
      · split
        · exact Or.inl (by decide)
        · split
          · exact Or.inr (ho _)
          · exact Or.inl (by decide)
    obtain ⟨n, hn32, hdn⟩ : ∃ n : Nat, n ≤ 32 ∧ d = nI n := by
      rw [hd]
      unfold e_d
      split
      · exact ⟨0, by omega, rfl⟩
      · next q =>
        have h5 := (hok.2.2.resolve_left q).1.2
        rw [eo4] at h5 ⊢
        refine ⟨o4, ?_, rfl⟩
        rcases Nat.lt_or_ge 32 o4 with r | r
        · exact absurd (nI_lt (a := 32) r (by omega)) h5
        · exact r
    have cd : d.toNatClampNeg = n := nc hdn (by omega)
    refine hY 6 _ _ _ (And.intro (vi_c (by decide)) (And.intro (fun h => ?_) (fun h => rzF (PQ P) h hC)))
    have hC := rzT (PQ P) h hC
    refine hY 7 _ _ _ (And.intro (vi_c (by decide)) (And.intro (vi_c (by decide)) (And.intro (vi_c (by decide)) ?_)))
    refine And.intro (fun h => ?_) (fun h => ?_)
    · exact hY 11 _ _ _ ⟨_, _, _, _, rfl, rzT (PQ P) h hC⟩
    have hC := rzF (PQ P) h hC
    refine And.intro (fun h => ?_) (fun h => ?_)
    · exact hY 12 _ _ _ ⟨_, _, _, _, rfl, rzT (PQ P) h hC⟩
    have hC := rzF (PQ P) h hC
    refine And.intro (fun h => ?_) (fun h => ?_)
    · exact hY 8 _ _ _ ⟨_, _, _, c, f, rfl, hc, c1, c8, hf, hf8, hpa, rzT (PQ P) h hC⟩
    have hC := rzF (PQ P) h hC
    refine And.intro (fun h => ?_) (fun h => ?_)
    · have hC := rzT (PQ P) h hC
      rw [hp] at hC
      refine hY 9 _ _ _ ⟨p, d, x, ?_, hp16, h8, hz, h32, hxe, hC⟩
      show [Value.ref 19, Value.int (v_pl μ), Value.int d, Value.int x] = _
      rw [hp]
    have hC := rzF (PQ P) h hC
    refine And.intro (fun h => ?_) (fun h => ?_)
    · have hC := rzT (PQ P) h hC
      rw [hp, cd, hdn] at hC
      refine hY 10 _ _ _ ⟨p, n, x, ?_, hp16, hn32, h8, hz, hC⟩
      show [Value.ref 19, Value.int (v_pl μ), Value.int d, Value.int x] = _
      rw [hp, hdn]
    · exact hY 13 _ _ _ (rzF (PQ P) h hC)
  refine hY 0 _ _ _ (And.intro (fun (h : ¬ μ 19 19 = 0) => hY 1 _ _ _ (rzF (PQ P) (fun q => h q.1) hC)) (fun (h0 : μ 19 19 = 0) => And.intro (fun (h4 : 4 ≤ μ 19 31) => ?_) (fun (h : ¬ 4 ≤ μ 19 31) => hY 1 _ _ _ (rzF (PQ P) (fun q => h q.2.1) hC))))
  refine hY 2 _ _ _ (And.intro (fun h5 => ?_) (fun h5 => And.intro (vi_c (by decide)) ?_))
  · refine hY 3 _ _ _ (And.intro (fun h => ?_) (fun h => ?_))
    · exact six ⟨h0, h4, Or.inl h⟩ _ _ (if_pos h).symm (by unfold e_x; rw [if_neg h5, if_pos h])
    · have ed : e_d μ = μ 28 4 := if_neg h
      refine And.intro (vi_c (by decide)) ⟨_, _, _, rfl, And.intro (fun h6 => hY 4 _ _ _ (rzF (PQ P) (fun q => b2_eq h6 (q.2.2.resolve_left h).1) hC)) (fun h6 => ?_)⟩
      have five : e_ok5 μ → Y 5 [some (.ref 19), some (.int (μ 19 31)), some (.int (μ 28 4)), some (.int (-1)), none, none] [] μ := by
        intro h7
        refine hY 5 _ _ _ (And.intro (fun h8 => ?_) (fun h8 => And.intro ?_ ?_))
        · exact six ⟨h0, h4, Or.inr h7⟩ _ _ ed.symm (by unfold e_x; rw [if_neg h5, if_neg h, if_neg h8])
        · have l1 : 1 ≤ l := by
            rcases Nat.lt_or_ge l 1 with q | q
            · have : l = 0 := by omega
              subst this
              rw [hl] at h4
              exact absurd h4 (by decide)
            · exact q
          rw [hl, show l = (l - 1) + 1 by omega, nI_pred]
          exact vp_in_nI (by omega) (by omega)
        · exact six ⟨h0, h4, Or.inr h7⟩ _ _ ed.symm (by unfold e_x; rw [if_neg h5, if_neg h, if_pos h8])
      refine And.intro (fun h7 => five ⟨b2_ne h6, Or.inl h7⟩) (fun h7 => And.intro (fun h8 => five ⟨b2_ne h6, Or.inr h8⟩) (fun h8 => hY 4 _ _ _ (rzF (PQ P) (fun q => ?_) hC)))
      exact (q.2.2.resolve_left h).2.elim h7 h8
  · have h55 : μ 19 31 ≤ 5 := by rw [h5]; decide
    exact six ⟨h0, h4, Or.inl h55⟩ _ _ (if_pos h55).symm (by unfold e_x; rw [if_pos h5]; rfl)
theorem m_Mo_execute (E : rz_E) : rz_MI SH CL E y_Mo_execute 6 (Cond.code y_Mo_execute c_Mo_execute 6 (some .int) :: rz_tbl) ({ frames := 3, cells := 0, slots := 0, locals := 68 }) C_Mo_execute := rz_metI (by decide) rfl (fun X _ G => sd_Mo_execute X G) bd_Mo_execute
theorem cd_Mo_execute : rz_Cd rz_tbl y_Mo_execute c_Mo_execute 6 (some .int) (Cond.code y_Mo_execute c_Mo_execute 6 (some .int) :: rz_tbl) 0 ({ frames := 3, cells := 0, slots := 0, locals := 68 }) := ⟨rz_good wd_795, ⟨_, rfl⟩, wd_47, by decide +kernel, rfl, rfl⟩
def g_Co (x : Int32) (μ : rz_M) : rz_M := if ¬ μ 19 31 = 40 then rz_up (rz_up μ 28 (μ 19 31).toNatClampNeg x) 19 31 (μ 19 31 + 1) else rz_up μ 19 19 1
def g_adds : Nat → Nat → rz_M → rz_M
  | 0, _, μ => μ
  | d + 1, i, μ => g_adds d (i + 1) (g_Co (μ 27 (3 + i)) μ)
/-- the STATUS, what a COMMAND done leaves, and the next piece -/
def g_fin (s : Int32) (μ : rz_M) : rz_M :=
  let a := (μ 19 32).toNatClampNeg
  let β := g_put (s &&& 255) (a + 1) (g_put (s >>> ((8 : Int32) &&& 31)) a μ)
  g_nxc (rz_up (rz_up (rz_up β 19 11 (β 19 11 + 1)) 19 31 0) 19 19 0)
def g_cm0 (l : Nat) (μ : rz_M) : rz_M := g_adds l 0 (rz_up (rz_up (rz_up μ 19 22 (1 - μ 19 22)) 19 32 0) 19 33 0)
def g_cm1 (m : Int32) (ν : rz_M) : rz_M := if m = 0 then (if ¬ (g_exe ν).2 19 17 = 0 then g_fin (g_exe ν).1 (g_exe ν).2 else (g_exe ν).2) else g_R 0 ν
def g_comes (l : Nat) (m : Int32) (μ : rz_M) : rz_M := g_cm1 m (g_cm0 l μ)
def JT (μ : rz_M) : Prop := (∃ l : Nat, l ≤ 40 ∧ μ 19 31 = nI l) ∧ OCT (μ 28)
theorem g_Co_ne {x : Int32} {μ : rz_M} {k : Nat} (h : k ≠ 19) (h28 : k ≠ 28) : g_Co x μ k = μ k := by
  unfold g_Co
  split
  · rw [rz_up_k h, rz_up_k h28]
  · exact rz_up_k h
theorem g_Co_19 {x : Int32} {μ : rz_M} {j : Nat} (h31 : j ≠ 31) (h19 : j ≠ 19) : g_Co x μ 19 j = μ 19 j := by
  unfold g_Co
  split
  · rw [rz_up_j h31, rz_up_k (by decide)]
  · exact rz_up_j h19
theorem JT_add {x : Int32} {μ : rz_M} (h : JT μ) (hx : OV x) : JT (g_Co x μ) := by
  obtain ⟨⟨m, hm, e⟩, ho⟩ := h
  unfold g_Co
  split
  · next q =>
    have hlt : m < 40 := by
      rcases Nat.lt_or_ge m 40 with r | r
      · exact r
      · have : m = 40 := by omega
        subst this
        exact absurd e q
    refine ⟨⟨m + 1, by omega, ?_⟩, ?_⟩
    · rw [rz_up_at, e, nI_succ]
    · rw [rz_up_k (by decide)]
      exact OCT_up ho hx _
  · exact ⟨⟨m, hm, e⟩, ho⟩
theorem g_adds_ne : ∀ (d i : Nat) (μ : rz_M) {k : Nat}, k ≠ 19 → k ≠ 28 → g_adds d i μ k = μ k
  | 0, i, μ, k, _, _ => rfl
  | d + 1, i, μ, k, h19, h28 => by
    unfold g_adds
    rw [g_adds_ne d (i + 1) _ h19 h28, g_Co_ne h19 h28]
theorem g_adds_19 : ∀ (d i : Nat) (μ : rz_M) {j : Nat}, j ≠ 31 → j ≠ 19 → g_adds d i μ 19 j = μ 19 j
  | 0, i, μ, j, _, _ => rfl
  | d + 1, i, μ, j, h31, h19 => by
    unfold g_adds
    rw [g_adds_19 d (i + 1) _ h31 h19, g_Co_19 h31 h19]
theorem JT_adds : ∀ (d i : Nat) (μ : rz_M), JT μ → OCT (μ 27) → JT (g_adds d i μ)
  | 0, i, μ, h, _ => h
  | d + 1, i, μ, h, ho => by
    unfold g_adds
    refine JT_adds d (i + 1) _ (JT_add h (ho _)) ?_
    rw [g_Co_ne (by decide) (by decide)]
    exact ho
/-- what the piece behind a COMMAND needs -/
def IXa (μ : rz_M) : Prop := (∃ a : Nat, a ≤ 24 ∧ μ 19 32 = nI a) ∧ μ 19 33 = 0 ∧ (∃ z : Nat, z ≤ 32 ∧ μ 19 24 = nI z)
def C_Mo_comes : rz_C := fun As μ P => ∃ (l : Nat) (m : Int32), As = [.ref 19, .int (nI l), .int m] ∧ l ≤ 32 ∧ JT μ ∧ OCT (μ 27) ∧ (m = 0 → IX (g_cm0 l μ) ∧ (¬ (g_exe (g_cm0 l μ)).2 19 17 = 0 → IXa (g_exe (g_cm0 l μ)).2)) ∧ P none (g_comes l m μ)
def bk_Mo_comes : Nat → List rz_T := fun b => match b with
  | 0 => [tz_aload 0, tz_iconst 1, tz_aload 0, tz_get SH 7 22, tz_isub, tz_put SH 7 22, tz_aload 0, tz_iconst 0, tz_put SH 7 32, tz_aload 0, tz_iconst 0, tz_put SH 7 33, tz_iconst 0, tz_istore 3, tz_fall 1]
  | 1 => [tz_iload 3, tz_iload 1, tz_icmp_ge 4, tz_aload 0, tz_get SH 7 31, tz_bipush 40, tz_icmp_ne 2, tz_aload 0, tz_iconst 1, tz_putz SH 7 19, tz_goto 3]
  | 2 => [tz_aload 0, tz_get SH 7 26, tz_aload 0, tz_get SH 7 31, tz_aload 0, tz_get SH 7 25, tz_iconst 3, tz_iload 3, tz_iadd, tz_iald SH, tz_iast SH, tz_aload 0, tz_dup, tz_get SH 7 31, tz_iconst 1, tz_iadd, tz_put SH 7 31, tz_fall 3]
  | 3 => [tz_iinc 3 1, tz_goto 1]
  | 4 => [tz_iload 2, tz_if_eq 5, tz_aload 0, tz_iconst 0, tz_cv SH 1 7 2 C_Mo_answerR, tz_vret]
  | 5 => [tz_aload 0, tz_cv SH 0 7 6 C_Mo_execute, tz_istore 3, tz_aload 0, tz_get SH 7 17, tz_if_ne 6, tz_vret]
  | 6 => [tz_aload 0, tz_iload 3, tz_bipush 8, tz_ishr, tz_cv SH 1 7 2 C_Mo_put, tz_aload 0, tz_iload 3, tz_sipush 255, tz_iand, tz_cv SH 1 7 2 C_Mo_put, tz_aload 0, tz_dup, tz_get SH 7 11, tz_iconst 1, tz_iadd, tz_put SH 7 11, tz_aload 0, tz_iconst 0, tz_put SH 7 31, tz_aload 0, tz_iconst 0, tz_putz SH 7 19, tz_aload 0, tz_cv SH 0 7 3 C_Mo_next, tz_vret]
  | _ => []
def bp_Mo_comes : Nat → Nat := fun b => match b with
  | 0 => 0
  | 1 => 22
  | 2 => 44
  | 3 => 71
  | 4 => 77
  | 5 => 87
  | 6 => 100
  | _ => 0
set_option maxRecDepth 100000 in
set_option maxHeartbeats 4000000 in
theorem sd_Mo_comes (X : rz_X) (G : rz_Cx CL X c_Mo_comes 4 rz_tbl R_Mo ({ frames := 4, cells := 0, slots := 0, locals := 93 })) : ∀ b, rz_SB SH CL X bp_Mo_comes (rz_RV SH CL X c_Mo_comes) (bk_Mo_comes b) (bp_Mo_comes b) := fun b => match b with
  | 0 => (rz_cons (rz_aload_n G d_Mo_comes_0 rfl) (rz_cons (rz_iconst G d_Mo_comes_1 (by decide)) (rz_cons (rz_aload_n G d_Mo_comes_2 rfl) (rz_cons (rz_get G rfl in_Mo (by decide) wd_641 d_Mo_comes_3) (rz_cons (rz_isub G d_Mo_comes_6) (rz_cons (rz_put G rfl in_Mo ty_Mo tyok_Mo nm_Mo (by decide) rfl (by decide +kernel) wd_641 d_Mo_comes_7) (rz_cons (rz_aload_n G d_Mo_comes_10 rfl) (rz_cons (rz_iconst G d_Mo_comes_11 (by decide)) (rz_cons (rz_put G rfl in_Mo ty_Mo tyok_Mo nm_Mo (by decide) rfl (by decide +kernel) wd_651 d_Mo_comes_12) (rz_cons (rz_aload_n G d_Mo_comes_15 rfl) (rz_cons (rz_iconst G d_Mo_comes_16 (by decide)) (rz_cons (rz_put G rfl in_Mo ty_Mo tyok_Mo nm_Mo (by decide) rfl (by decide +kernel) wd_652 d_Mo_comes_17) (rz_cons (rz_iconst G d_Mo_comes_20 (by decide)) (rz_cons (rz_istore_n G d_Mo_comes_21 rfl (by decide)) (rz_fall rfl)))))))))))))))
  | 1 => (rz_cons (rz_iload_n G d_Mo_comes_22 rfl) (rz_cons (rz_iload_n G d_Mo_comes_23 rfl) (rz_cons (rz_icmp_ge G d_Mo_comes_24 (by decide)) (rz_cons (rz_aload_n G d_Mo_comes_27 rfl) (rz_cons (rz_get G rfl in_Mo (by decide) wd_650 d_Mo_comes_28) (rz_cons (rz_bipush G d_Mo_comes_31 (by decide)) (rz_cons (rz_icmp_ne G d_Mo_comes_33 (by decide)) (rz_cons (rz_aload_n G d_Mo_comes_36 rfl) (rz_cons (rz_iconst G d_Mo_comes_37 (by decide)) (rz_cons (rz_putz G rfl in_Mo ty_Mo tyok_Mo nm_Mo (by decide) rfl (by decide +kernel) wd_638 d_Mo_comes_38) (rz_cons (rz_goto (npc := 0) G d_Mo_comes_41 (by decide)) rz_nil)))))))))))
  | 2 => (rz_cons (rz_aload_n G d_Mo_comes_44 rfl) (rz_cons (rz_get G rfl in_Mo (by decide) wd_645 d_Mo_comes_45) (rz_cons (rz_aload_n G d_Mo_comes_48 rfl) (rz_cons (rz_get G rfl in_Mo (by decide) wd_650 d_Mo_comes_49) (rz_cons (rz_aload_n G d_Mo_comes_52 rfl) (rz_cons (rz_get G rfl in_Mo (by decide) wd_644 d_Mo_comes_53) (rz_cons (rz_iconst G d_Mo_comes_56 (by decide)) (rz_cons (rz_iload_n G d_Mo_comes_57 rfl) (rz_cons (rz_iadd G d_Mo_comes_58) (rz_cons (rz_iald G d_Mo_comes_59) (rz_cons (rz_iast G d_Mo_comes_60) (rz_cons (rz_aload_n G d_Mo_comes_61 rfl) (rz_cons (rz_dup G d_Mo_comes_62) (rz_cons (rz_get G rfl in_Mo (by decide) wd_650 d_Mo_comes_63) (rz_cons (rz_iconst G d_Mo_comes_66 (by decide)) (rz_cons (rz_iadd G d_Mo_comes_67) (rz_cons (rz_put G rfl in_Mo ty_Mo tyok_Mo nm_Mo (by decide) rfl (by decide +kernel) wd_650 d_Mo_comes_68) (rz_fall rfl))))))))))))))))))
  | 3 => (rz_cons (rz_iinc G d_Mo_comes_71 (by decide) (by decide)) (rz_cons (rz_goto (npc := 0) G d_Mo_comes_74 (by decide)) rz_nil))
  | 4 => (rz_cons (rz_iload_n G d_Mo_comes_77 rfl) (rz_cons (rz_if_eq G d_Mo_comes_78 (by decide)) (rz_cons (rz_aload_n G d_Mo_comes_81 rfl) (rz_cons (rz_iconst G d_Mo_comes_82 (by decide)) (rz_cons (rz_cvv G (m_Mo_answerR X.1) cd_Mo_answerR wd_776 wd_778 wd_24 rfl rfl (by decide) d_Mo_comes_83) (rz_cons (rz_vret (npc := 0) d_Mo_comes_86) rz_nil))))))
  | 5 => (rz_cons (rz_aload_n G d_Mo_comes_87 rfl) (rz_cons (rz_cvi G (m_Mo_execute X.1) cd_Mo_execute wd_792 wd_794 wd_28 rfl rfl (by decide) d_Mo_comes_88) (rz_cons (rz_istore_n G d_Mo_comes_91 rfl (by decide)) (rz_cons (rz_aload_n G d_Mo_comes_92 rfl) (rz_cons (rz_get G rfl in_Mo (by decide) wd_636 d_Mo_comes_93) (rz_cons (rz_if_ne G d_Mo_comes_96 (by decide)) (rz_cons (rz_vret (npc := 0) d_Mo_comes_99) rz_nil)))))))
  | 6 => (rz_cons (rz_aload_n G d_Mo_comes_100 rfl) (rz_cons (rz_iload_n G d_Mo_comes_101 rfl) (rz_cons (rz_bipush G d_Mo_comes_102 (by decide)) (rz_cons (rz_ishr G d_Mo_comes_104) (rz_cons (rz_cvv G (m_Mo_put X.1) cd_Mo_put wd_809 wd_811 wd_32 rfl rfl (by decide) d_Mo_comes_105) (rz_cons (rz_aload_n G d_Mo_comes_108 rfl) (rz_cons (rz_iload_n G d_Mo_comes_109 rfl) (rz_cons (rz_sipush G d_Mo_comes_110 (by decide)) (rz_cons (rz_iand G d_Mo_comes_113) (rz_cons (rz_cvv G (m_Mo_put X.1) cd_Mo_put wd_809 wd_811 wd_32 rfl rfl (by decide) d_Mo_comes_114) (rz_cons (rz_aload_n G d_Mo_comes_117 rfl) (rz_cons (rz_dup G d_Mo_comes_118) (rz_cons (rz_get G rfl in_Mo (by decide) wd_630 d_Mo_comes_119) (rz_cons (rz_iconst G d_Mo_comes_122 (by decide)) (rz_cons (rz_iadd G d_Mo_comes_123) (rz_cons (rz_put G rfl in_Mo ty_Mo tyok_Mo nm_Mo (by decide) rfl (by decide +kernel) wd_630 d_Mo_comes_124) (rz_cons (rz_aload_n G d_Mo_comes_127 rfl) (rz_cons (rz_iconst G d_Mo_comes_128 (by decide)) (rz_cons (rz_put G rfl in_Mo ty_Mo tyok_Mo nm_Mo (by decide) rfl (by decide +kernel) wd_650 d_Mo_comes_129) (rz_cons (rz_aload_n G d_Mo_comes_132 rfl) (rz_cons (rz_iconst G d_Mo_comes_133 (by decide)) (rz_cons (rz_putz G rfl in_Mo ty_Mo tyok_Mo nm_Mo (by decide) rfl (by decide +kernel) wd_638 d_Mo_comes_134) (rz_cons (rz_aload_n G d_Mo_comes_137 rfl) (rz_cons (rz_cvv G (m_Mo_next X.1) cd_Mo_next wd_829 wd_831 wd_37 rfl rfl (by decide) d_Mo_comes_138) (rz_cons (rz_vret (npc := 0) d_Mo_comes_141) rz_nil)))))))))))))))))))))))))
  | _ + 7 => rz_nil
set_option maxRecDepth 100000 in
set_option maxHeartbeats 4000000 in
theorem bd_Mo_comes : ∀ (Y : Nat → rz_K) (P : rz_P), (∀ b ls st μ, rz_ex P Y (bk_Mo_comes b) ls st μ → Y b ls st μ) → ∀ As μ, C_Mo_comes As μ P → Y 0 (rz_pad 4 (rz_ent As)) [] μ := by
  intro Y P hY As μ hC
  obtain ⟨l, m, rfl, h32, hJ, hO, hX, hC⟩ := hC
  have four : ∀ ν : rz_M, ν = g_cm0 l μ → Y 4 [some (.ref 19), some (.int (nI l)), some (.int m), some (.int (nI l))] [] ν := by
    intro ν hν
    unfold g_comes at hC
    rw [← hν] at hC hX
    unfold g_cm1 at hC
    refine hY 4 _ _ _ (And.intro (fun h => ?_) (fun h => ?_))
    · rw [if_pos h] at hC
      obtain ⟨hIX, hIa⟩ := hX h
      refine hY 5 _ _ _ ⟨rfl, hIX, And.intro (fun h2 => ?_) (fun h2 => ?_)⟩
      · rw [if_pos h2] at hC
        obtain ⟨⟨a, ha24, ha⟩, h33, ⟨z, hz32, hz⟩⟩ := hIa h2
        unfold g_fin at hC
        dsimp only at hC
        rw [nc ha (by omega)] at hC
        refine hY 6 _ _ _ ⟨_, a, rfl, ha, by omega, _, a + 1, rfl, rfl, by omega, ?_⟩
        refine And.intro (Or.inl rfl) ⟨a + 2, 0, z, rfl, rfl, h33, hz, by omega, by omega, hz32, ?_⟩
        have e9 := nx_eq (μ := rz_up (rz_up (rz_up (g_put ((g_exe ν).1 &&& 255) (a + 1) (g_put ((g_exe ν).1 >>> ((8 : Int32) &&& 31)) a (g_exe ν).2)) 19 11 (g_put ((g_exe ν).1 &&& 255) (a + 1) (g_put ((g_exe ν).1 >>> ((8 : Int32) &&& 31)) a (g_exe ν).2) 19 11 + 1)) 19 31 0) 19 19 0) (a := a + 2) (s := 0) (z := z) rfl h33 hz (by omega) (by omega) (by omega)
        rw [← e9] at hC
        exact hC
      · rw [if_neg (fun q => q h2)] at hC
        exact hC
    · rw [if_neg h] at hC
      exact ⟨_, rfl, hC⟩
  have loop : ∀ (d i : Nat) (ν : rz_M), i + d = l → ν 27 = μ 27 → JT ν → g_adds d i ν = g_cm0 l μ → Y 1 [some (.ref 19), some (.int (nI l)), some (.int m), some (.int (nI i))] [] ν := by
    intro d
    induction d with
    | zero =>
      intro i ν hi h27 hj he
      have : i = l := by omega
      subst this
      exact hY 1 _ _ _ (And.intro (fun _ => four ν he) (fun h => absurd (Int32.le_refl _) h))
    | succ d ih =>
      intro i ν hi h27 hj he
      have e3 : (3 : Int32) + nI i = nI (3 + i) := by rw [show (3 : Int32) = nI 3 from rfl, nI_add]
      have := ih (i + 1) (g_Co (ν 27 (3 + i)) ν) (by omega) (by rw [g_Co_ne (by decide) (by decide)]; exact h27) (JT_add hj (by rw [h27]; exact hO _)) he
      rw [nI_succ] at this
      unfold g_Co at this
      refine hY 1 _ _ _ (And.intro (fun h => absurd h (nI_ge (by omega) (by omega))) (fun _ => And.intro (fun (h : ¬ ν 19 31 = 40) => ?_) (fun (h : ν 19 31 = 40) => ?_)))
      · rw [if_pos h] at this
        obtain ⟨⟨k, hk40, ek⟩, -⟩ := hj
        have hk : k < 40 := by
          rcases Nat.lt_or_ge k 40 with r | r
          · exact r
          · have : k = 40 := by omega
            subst this
            exact absurd ek h
        refine hY 2 _ _ _ ?_
        show vp_in (3 + nI i) 40 ∧ vp_in (ν 19 31) 40 ∧ Y 3 [some (.ref 19), some (.int (nI l)), some (.int m), some (.int (nI i))] [] (rz_up (rz_up ν 28 (ν 19 31).toNatClampNeg (ν 27 (3 + nI i).toNatClampNeg)) 19 31 (ν 19 31 + 1))
        rw [e3, nI_clamp (by omega)]
        refine And.intro (vp_in_nI (by omega) (by omega)) (And.intro ?_ (hY 3 _ _ _ this))
        rw [ek]; exact vp_in_nI hk (by omega)
      · rw [if_neg (fun q => q h)] at this
        exact And.intro (Or.inr rfl) (hY 3 _ _ _ this)
  exact hY 0 _ _ _ (loop l 0 _ (by omega) rfl hJ rfl)
theorem m_Mo_comes (E : rz_E) : rz_MV SH CL E y_Mo_comes 4 (Cond.code y_Mo_comes c_Mo_comes 4 none :: rz_tbl) ({ frames := 4, cells := 0, slots := 0, locals := 93 }) C_Mo_comes := rz_metV (by decide) rfl (fun X _ G => sd_Mo_comes X G) bd_Mo_comes
theorem cd_Mo_comes : rz_Cd rz_tbl y_Mo_comes c_Mo_comes 4 none (Cond.code y_Mo_comes c_Mo_comes 4 none :: rz_tbl) 2 ({ frames := 4, cells := 0, slots := 0, locals := 93 }) := ⟨rz_good wd_791, ⟨_, rfl⟩, wd_47, by decide +kernel, rfl, rfl⟩
