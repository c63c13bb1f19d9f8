/-- the least place below k (going down) that has the name, and the folder or is 0; else x -/
def g_lp (μ : rz_M) (w : Int32) : Nat → Int32 → Int32
  | 0, x => x
  | k + 1, x => g_lp μ w k (if μ 20 k = w ∧ (nI k = 0 ∨ μ 21 k = μ 19 20) then nI k else x)
def g_fi2 (x : Int32) (μ : rz_M) : Int32 × rz_M := if 0 ≤ x then (if μ 22 x.toNatClampNeg ≤ 0 then (36864, rz_up (rz_up μ 19 21 (-1)) 19 20 x) else (36864, rz_up μ 19 21 x)) else (27266, μ)
def g_nm (μ : rz_M) : Int32 := 256 * μ 28 5 + μ 28 6
def g_fnd (A : Int32) (μ : rz_M) : Int32 := g_lp μ (if ¬ A = 0 then -1 else g_nm μ) (μ 19 6).toNatClampNeg (if ¬ A = 3 then -1 else μ 21 (μ 19 20).toNatClampNeg)
def g_fi (A B d : Int32) (μ : rz_M) : Int32 × rz_M := if A = 0 ∨ A = 3 then (if B = 0 then (if (A = 0 ∧ d = 2) ∨ (¬ A = 0 ∧ d ≤ 0) then g_fi2 (g_fnd A μ) μ else (26368, μ)) else (27270, μ)) else (27270, μ)
def C_Mo_find : rz_C := fun As μ P => ∃ (A B d : Int32) (c f : Nat), As = [.ref 19, .int A, .int B, .int d] ∧ μ 19 6 = nI c ∧ 1 ≤ c ∧ c ≤ 8 ∧ μ 19 20 = nI f ∧ f < 8 ∧ (∀ i, i < 8 → μ 21 i = -1 ∨ ∃ m : Nat, m < 8 ∧ μ 21 i = nI m) ∧ PQ P (g_fi A B d μ)
def bk_Mo_find : Nat → List rz_T := fun b => match b with
  | 0 => [tz_iload 1, tz_if_eq 1, tz_iload 1, tz_iconst 3, tz_icmp_ne 2, tz_fall 1]
  | 1 => [tz_iload 2, tz_if_eq 3, tz_fall 2]
  | 2 => [tz_sipush 27270, tz_iret]
  | 3 => [tz_iload 1, tz_if_ne 4, tz_iload 3, tz_iconst 2, tz_icmp_eq 6, tz_goto 5]
  | 4 => [tz_iload 3, tz_if_le 6, tz_fall 5]
  | 5 => [tz_sipush 26368, tz_iret]
  | 6 => [tz_iload 1, tz_iconst 3, tz_icmp_ne 7, tz_aload 0, tz_get SH 7 1, tz_aload 0, tz_get SH 7 20, tz_iald SH, tz_goto 8]
  | 7 => [tz_iconst (-1), tz_fall 8]
  | 8 => [tz_istore 4, tz_iload 1, tz_if_ne 9, tz_sipush 256, tz_aload 0, tz_get SH 7 26, tz_iconst 5, tz_iald SH, tz_imul, tz_aload 0, tz_get SH 7 26, tz_bipush 6, tz_iald SH, tz_iadd, tz_goto 10]
  | 9 => [tz_iconst (-1), tz_fall 10]
  | 10 => [tz_istore 5, tz_aload 0, tz_get SH 7 6, tz_iconst 1, tz_isub, tz_istore 6, tz_fall 11]
  | 11 => [tz_iload 6, tz_if_lt 14, tz_aload 0, tz_get SH 7 0, tz_iload 6, tz_iald SH, tz_iload 5, tz_icmp_ne 13, tz_iload 6, tz_if_eq 12, tz_aload 0, tz_get SH 7 1, tz_iload 6, tz_iald SH, tz_aload 0, tz_get SH 7 20, tz_icmp_ne 13, tz_fall 12]
  | 12 => [tz_iload 6, tz_istore 4, tz_fall 13]
  | 13 => [tz_iinc 6 (-1), tz_goto 11]
  | 14 => [tz_iload 4, tz_if_ge 15, tz_sipush 27266, tz_iret]
  | 15 => [tz_aload 0, tz_aload 0, tz_get SH 7 2, tz_iload 4, tz_iald SH, tz_if_le 16, tz_iload 4, tz_goto 17]
  | 16 => [tz_iconst (-1), tz_fall 17]
  | 17 => [tz_put SH 7 21, tz_aload 0, tz_get SH 7 21, tz_if_ge 18, tz_aload 0, tz_iload 4, tz_put SH 7 20, tz_fall 18]
  | 18 => [tz_ldc 36864, tz_iret]
  | _ => []
def bp_Mo_find : Nat → Nat := fun b => match b with
  | 0 => 0
  | 1 => 9
  | 2 => 13
  | 3 => 17
  | 4 => 29
  | 5 => 33
  | 6 => 37
  | 7 => 54
  | 8 => 55
  | 9 => 82
  | 10 => 83
  | 11 => 93
  | 12 => 129
  | 13 => 133
  | 14 => 139
  | 15 => 148
  | 16 => 164
  | 17 => 165
  | 18 => 181
  | _ => 0
set_option maxRecDepth 100000 in
set_option maxHeartbeats 4000000 in
theorem sd_Mo_find (X : rz_X) (G : rz_Cx CL X c_Mo_find 7 rz_tbl R_Mo ({ frames := 0, cells := 0, slots := 0, locals := 0 })) : ∀ b, rz_SB SH CL X bp_Mo_find (rz_RI SH CL X c_Mo_find (fun v => narrow .int (.int v) = .int v)) (bk_Mo_find b) (bp_Mo_find b) := fun b => match b with
  | 0 => (rz_cons (rz_iload_n G d_Mo_find_0 rfl) (rz_cons (rz_if_eq G d_Mo_find_1 (by decide)) (rz_cons (rz_iload_n G d_Mo_find_4 rfl) (rz_cons (rz_iconst G d_Mo_find_5 (by decide)) (rz_cons (rz_icmp_ne G d_Mo_find_6 (by decide)) (rz_fall rfl))))))
  | 1 => (rz_cons (rz_iload_n G d_Mo_find_9 rfl) (rz_cons (rz_if_eq G d_Mo_find_10 (by decide)) (rz_fall rfl)))
  | 2 => (rz_cons (rz_sipush G d_Mo_find_13 (by decide)) (rz_cons (rz_iret (npc := 0) (fun _ => rfl) d_Mo_find_16) rz_nil))
  | 3 => (rz_cons (rz_iload_n G d_Mo_find_17 rfl) (rz_cons (rz_if_ne G d_Mo_find_18 (by decide)) (rz_cons (rz_iload_n G d_Mo_find_21 rfl) (rz_cons (rz_iconst G d_Mo_find_22 (by decide)) (rz_cons (rz_icmp_eq G d_Mo_find_23 (by decide)) (rz_cons (rz_goto (npc := 0) G d_Mo_find_26 (by decide)) rz_nil))))))
  | 4 => (rz_cons (rz_iload_n G d_Mo_find_29 rfl) (rz_cons (rz_if_le G d_Mo_find_30 (by decide)) (rz_fall rfl)))
  | 5 => (rz_cons (rz_sipush G d_Mo_find_33 (by decide)) (rz_cons (rz_iret (npc := 0) (fun _ => rfl) d_Mo_find_36) rz_nil))
  | 6 => (rz_cons (rz_iload_n G d_Mo_find_37 rfl) (rz_cons (rz_iconst G d_Mo_find_38 (by decide)) (rz_cons (rz_icmp_ne G d_Mo_find_39 (by decide)) (rz_cons (rz_aload_n G d_Mo_find_42 rfl) (rz_cons (rz_get G rfl in_Mo (by decide) wd_620 d_Mo_find_43) (rz_cons (rz_aload_n G d_Mo_find_46 rfl) (rz_cons (rz_get G rfl in_Mo (by decide) wd_639 d_Mo_find_47) (rz_cons (rz_iald G d_Mo_find_50) (rz_cons (rz_goto (npc := 0) G d_Mo_find_51 (by decide)) rz_nil)))))))))
  | 7 => (rz_cons (rz_iconst G d_Mo_find_54 (by decide)) (rz_fall rfl))
  | 8 => (rz_cons (rz_istore G d_Mo_find_55 (by decide)) (rz_cons (rz_iload_n G d_Mo_find_57 rfl) (rz_cons (rz_if_ne G d_Mo_find_58 (by decide)) (rz_cons (rz_sipush G d_Mo_find_61 (by decide)) (rz_cons (rz_aload_n G d_Mo_find_64 rfl) (rz_cons (rz_get G rfl in_Mo (by decide) wd_645 d_Mo_find_65) (rz_cons (rz_iconst G d_Mo_find_68 (by decide)) (rz_cons (rz_iald G d_Mo_find_69) (rz_cons (rz_imul G d_Mo_find_70) (rz_cons (rz_aload_n G d_Mo_find_71 rfl) (rz_cons (rz_get G rfl in_Mo (by decide) wd_645 d_Mo_find_72) (rz_cons (rz_bipush G d_Mo_find_75 (by decide)) (rz_cons (rz_iald G d_Mo_find_77) (rz_cons (rz_iadd G d_Mo_find_78) (rz_cons (rz_goto (npc := 0) G d_Mo_find_79 (by decide)) rz_nil)))))))))))))))
  | 9 => (rz_cons (rz_iconst G d_Mo_find_82 (by decide)) (rz_fall rfl))
  | 10 => (rz_cons (rz_istore G d_Mo_find_83 (by decide)) (rz_cons (rz_aload_n G d_Mo_find_85 rfl) (rz_cons (rz_get G rfl in_Mo (by decide) wd_625 d_Mo_find_86) (rz_cons (rz_iconst G d_Mo_find_89 (by decide)) (rz_cons (rz_isub G d_Mo_find_90) (rz_cons (rz_istore G d_Mo_find_91 (by decide)) (rz_fall rfl)))))))
  | 11 => (rz_cons (rz_iload G d_Mo_find_93) (rz_cons (rz_if_lt G d_Mo_find_95 (by decide)) (rz_cons (rz_aload_n G d_Mo_find_98 rfl) (rz_cons (rz_get G rfl in_Mo (by decide) wd_619 d_Mo_find_99) (rz_cons (rz_iload G d_Mo_find_102) (rz_cons (rz_iald G d_Mo_find_104) (rz_cons (rz_iload G d_Mo_find_105) (rz_cons (rz_icmp_ne G d_Mo_find_107 (by decide)) (rz_cons (rz_iload G d_Mo_find_110) (rz_cons (rz_if_eq G d_Mo_find_112 (by decide)) (rz_cons (rz_aload_n G d_Mo_find_115 rfl) (rz_cons (rz_get G rfl in_Mo (by decide) wd_620 d_Mo_find_116) (rz_cons (rz_iload G d_Mo_find_119) (rz_cons (rz_iald G d_Mo_find_121) (rz_cons (rz_aload_n G d_Mo_find_122 rfl) (rz_cons (rz_get G rfl in_Mo (by decide) wd_639 d_Mo_find_123) (rz_cons (rz_icmp_ne G d_Mo_find_126 (by decide)) (rz_fall rfl))))))))))))))))))
  | 12 => (rz_cons (rz_iload G d_Mo_find_129) (rz_cons (rz_istore G d_Mo_find_131 (by decide)) (rz_fall rfl)))
  | 13 => (rz_cons (rz_iinc G d_Mo_find_133 (by decide) (by decide)) (rz_cons (rz_goto (npc := 0) G d_Mo_find_136 (by decide)) rz_nil))
  | 14 => (rz_cons (rz_iload G d_Mo_find_139) (rz_cons (rz_if_ge G d_Mo_find_141 (by decide)) (rz_cons (rz_sipush G d_Mo_find_144 (by decide)) (rz_cons (rz_iret (npc := 0) (fun _ => rfl) d_Mo_find_147) rz_nil))))
  | 15 => (rz_cons (rz_aload_n G d_Mo_find_148 rfl) (rz_cons (rz_aload_n G d_Mo_find_149 rfl) (rz_cons (rz_get G rfl in_Mo (by decide) wd_621 d_Mo_find_150) (rz_cons (rz_iload G d_Mo_find_153) (rz_cons (rz_iald G d_Mo_find_155) (rz_cons (rz_if_le G d_Mo_find_156 (by decide)) (rz_cons (rz_iload G d_Mo_find_159) (rz_cons (rz_goto (npc := 0) G d_Mo_find_161 (by decide)) rz_nil))))))))
  | 16 => (rz_cons (rz_iconst G d_Mo_find_164 (by decide)) (rz_fall rfl))
  | 17 => (rz_cons (rz_put G rfl in_Mo ty_Mo tyok_Mo nm_Mo (by decide) rfl (by decide +kernel) wd_640 d_Mo_find_165) (rz_cons (rz_aload_n G d_Mo_find_168 rfl) (rz_cons (rz_get G rfl in_Mo (by decide) wd_640 d_Mo_find_169) (rz_cons (rz_if_ge G d_Mo_find_172 (by decide)) (rz_cons (rz_aload_n G d_Mo_find_175 rfl) (rz_cons (rz_iload G d_Mo_find_176) (rz_cons (rz_put G rfl in_Mo ty_Mo tyok_Mo nm_Mo (by decide) rfl (by decide +kernel) wd_639 d_Mo_find_178) (rz_fall rfl))))))))
  | 18 => (rz_cons (rz_ldc G wd_800 d_Mo_find_181) (rz_cons (rz_iret (npc := 0) (fun _ => rfl) d_Mo_find_183) rz_nil))
  | _ + 19 => rz_nil
set_option maxRecDepth 100000 in
set_option maxHeartbeats 4000000 in
theorem bd_Mo_find : ∀ (Y : Nat → rz_K) (P : rz_P), (∀ b ls st μ, rz_ex P Y (bk_Mo_find b) ls st μ → Y b ls st μ) → ∀ As μ, C_Mo_find As μ P → Y 0 (rz_pad 7 (rz_ent As)) [] μ := by
  intro Y P hY As μ hC
  obtain ⟨A, B, d, c, f, rfl, hc, c1, c8, hf, hf8, hpa, hC⟩ := hC
  have six : PQ P (g_fi2 (g_fnd A μ) μ) → Y 6 [some (.ref 19), some (.int A), some (.int B), some (.int d), none, none, none] [] μ := by
    intro hC
    have loop : ∀ (k : Nat) (x w : Int32), k ≤ 8 → (x = -1 ∨ ∃ m : Nat, m < 8 ∧ x = nI m) → PQ P (g_fi2 (g_lp μ w k x) μ) → Y 11 [some (.ref 19), some (.int A), some (.int B), some (.int d), some (.int x), some (.int w), some (.int (nI k - 1))] [] μ := by
      intro k
      induction k with
      | zero =>
        intro x w _ hx hp
        refine hY 11 _ _ _ (And.intro (fun _ => ?_) (fun h => absurd (by decide) h))
        refine hY 14 _ _ _ (And.intro (fun h => ?_) (fun h => rzF (PQ P) h hp))
        have hp := rzT (PQ P) h hp
        have hv : vp_in x 8 := by
          rcases hx with q | ⟨m, hm, q⟩
          · subst q; exact absurd h (by decide)
          · rw [q]; exact vp_in_nI hm (by omega)
        refine hY 15 _ _ _ (And.intro hv (And.intro (fun h2 => ?_) (fun h2 => ?_)))
        · exact hY 16 _ _ _ (hY 17 _ _ _ (And.intro (fun (h3 : (0 : Int32) ≤ -1) => absurd h3 (by decide)) (fun _ => hY 18 _ _ _ (rzT (PQ P) h2 hp))))
        · exact hY 17 _ _ _ (And.intro (fun _ => hY 18 _ _ _ (rzF (PQ P) h2 hp)) (fun h3 => absurd h h3))
      | succ k ih =>
        intro x w hk hx hp
        rw [nI_pred]
        have c1 : (nI k).toNatClampNeg = k := nI_clamp (by omega)
        have nx : ∀ y : Int32, (y = -1 ∨ ∃ m : Nat, m < 8 ∧ y = nI m) → PQ P (g_fi2 (g_lp μ w k y) μ) → Y 13 [some (.ref 19), some (.int A), some (.int B), some (.int d), some (.int y), some (.int w), some (.int (nI k))] [] μ := by
          intro y hy hq
          have e1 : nI k + (-1) = nI k - 1 := (Int32.sub_eq_add_neg _ _).symm
          refine hY 13 _ _ _ ?_
          show Y 11 [some (.ref 19), some (.int A), some (.int B), some (.int d), some (.int y), some (.int w), some (.int (nI k + (-1)))] [] μ
          rw [e1]
          exact ih y w (by omega) hy hq
        have t12 : (μ 20 k = w ∧ (nI k = 0 ∨ μ 21 k = μ 19 20)) → Y 12 [some (.ref 19), some (.int A), some (.int B), some (.int d), some (.int x), some (.int w), some (.int (nI k))] [] μ := by
          intro hq
          unfold g_lp at hp
          rw [if_pos hq] at hp
          exact hY 12 _ _ _ (nx (nI k) (Or.inr ⟨k, by omega, rfl⟩) hp)
        have t13 : ¬ (μ 20 k = w ∧ (nI k = 0 ∨ μ 21 k = μ 19 20)) → Y 13 [some (.ref 19), some (.int A), some (.int B), some (.int d), some (.int x), some (.int w), some (.int (nI k))] [] μ := by
          intro hq
          unfold g_lp at hp
          rw [if_neg hq] at hp
          exact nx x hx hp
        refine hY 11 _ _ _ (And.intro (fun h => absurd h (nI_pos (by omega))) (fun _ => And.intro (vp_in_nI (by omega) (by omega)) ?_))
        rw [c1]
        refine And.intro (fun h => t13 (fun q => h q.1)) (fun h1 => And.intro (fun h => t12 ⟨h1, Or.inl h⟩) (fun h2 => And.intro (vp_in_nI (by omega) (by omega)) ?_))
        rw [c1]
        exact And.intro (fun h => t13 (fun q => q.2.elim h2 h)) (fun h => t12 ⟨h1, Or.inr h⟩)
    have ten : ∀ (x w : Int32), x = (if ¬ A = 3 then -1 else μ 21 (μ 19 20).toNatClampNeg) → w = (if ¬ A = 0 then -1 else g_nm μ) → Y 10 [some (.ref 19), some (.int A), some (.int B), some (.int d), some (.int x), none, none] [.int w] μ := by
      intro x w hx hw
      unfold g_fnd at hC
      rw [← hx, ← hw, nc hc (by omega)] at hC
      have hx8 : x = -1 ∨ ∃ m : Nat, m < 8 ∧ x = nI m := by
        rw [hx]
        split
        · exact Or.inl rfl
        · rw [nc hf (by omega)]; exact hpa f hf8
      have := loop c x w c8 hx8 hC
      rw [← hc] at this
      exact hY 10 _ _ _ this
    have eight : ∀ x : Int32, x = (if ¬ A = 3 then -1 else μ 21 (μ 19 20).toNatClampNeg) → Y 8 [some (.ref 19), some (.int A), some (.int B), some (.int d), none, none, none] [.int x] μ := by
      intro x hx
      refine hY 8 _ _ _ (And.intro (fun h => hY 9 _ _ _ (ten x _ hx (if_pos h).symm)) (fun h => And.intro (vi_c (by decide)) (And.intro (vi_c (by decide)) (ten x _ hx (if_neg (fun q => q h)).symm))))
    refine hY 6 _ _ _ (And.intro (fun h => hY 7 _ _ _ (eight _ (if_pos h).symm)) (fun h => And.intro ?_ (eight _ (if_neg (fun q => q h)).symm)))
    show vp_in (μ 19 20) 8
    rw [hf]; exact vp_in_nI hf8 (by omega)
  have one : (A = 0 ∨ A = 3) → Y 1 [some (.ref 19), some (.int A), some (.int B), some (.int d), none, none, none] [] μ := by
    intro ha
    have hC := rzT (PQ P) ha hC
    refine hY 1 _ _ _ (And.intro (fun h => ?_) (fun h => hY 2 _ _ _ (rzF (PQ P) h hC)))
    have hC := rzT (PQ P) h hC
    refine hY 3 _ _ _ (And.intro (fun h => ?_) (fun h => And.intro (fun h2 => six (rzT (PQ P) (Or.inl ⟨h, h2⟩) hC)) (fun h2 => hY 5 _ _ _ (rzF (PQ P) ?_ hC))))
    · refine hY 4 _ _ _ (And.intro (fun h2 => six (rzT (PQ P) (Or.inr ⟨h, h2⟩) hC)) (fun h2 => hY 5 _ _ _ (rzF (PQ P) ?_ hC)))
      rintro (q | q)
      · exact h q.1
      · exact h2 q.2
    · rintro (q | q)
      · exact h2 q.2
      · exact q.1 h
  refine hY 0 _ _ _ (And.intro (fun h => one (Or.inl h)) (fun h => And.intro (fun h2 => hY 2 _ _ _ (rzF (PQ P) ?_ hC)) (fun h2 => one (Or.inr h2))))
  rintro (q | q)
  · exact h q
  · exact h2 q
theorem m_Mo_find (E : rz_E) : rz_MI SH CL E y_Mo_find 7 (Cond.code y_Mo_find c_Mo_find 7 (some .int) :: rz_tbl) ({ frames := 0, cells := 0, slots := 0, locals := 0 }) C_Mo_find := rz_metI (by decide) rfl (fun X _ G => sd_Mo_find X G) bd_Mo_find
theorem cd_Mo_find : rz_Cd rz_tbl y_Mo_find c_Mo_find 7 (some .int) (Cond.code y_Mo_find c_Mo_find 7 (some .int) :: rz_tbl) 3 ({ frames := 0, cells := 0, slots := 0, locals := 0 }) := ⟨rz_good wd_799, ⟨_, rfl⟩, wd_47, by decide +kernel, rfl, rfl⟩
def g_rdm (m b : Nat) (μ : rz_M) : rz_M := rz_up (rz_uf μ 29 (va_cpy (μ 25) (μ 29) b 0 m)) 19 32 (nI m)
def g_exn (x : Int32) : Int32 := if ¬ x = 0 then x else 32
def g_th (p : Int32) (μ : rz_M) : Int32 := μ 22 (μ 19 21).toNatClampNeg - p
def g_m (p x : Int32) (μ : rz_M) : Nat := min (g_exn x).toNatClampNeg (g_th p μ).toNatClampNeg
def g_reads (p d x : Int32) (μ : rz_M) : Int32 × rz_M := if 0 < d then (26368, μ) else if 0 ≤ x then (if g_wr 0 p μ ≤ 0 then (if g_exn x ≤ g_th p μ then (36864, g_rdm (g_m p x μ) (24 * μ 19 21 + p).toNatClampNeg μ) else (25218, g_rdm (g_m p x μ) (24 * μ 19 21 + p).toNatClampNeg μ)) else (g_wr 0 p μ, μ)) else (26368, μ)
theorem g_wr_ok {r p : Int32} {μ : rz_M} (h : g_wr r p μ ≤ 0) : 0 ≤ μ 19 21 ∧ ¬ (g_nd r μ = 2 ∨ (g_nd r μ = 1 ∧ μ 19 18 = 0)) ∧ p < μ 22 (μ 19 21).toNatClampNeg := by
  unfold g_wr at h
  split at h
  · next q =>
    split at h
    · exact absurd h (by decide)
    · next q2 =>
      split at h
      · next q3 => exact ⟨q, q2, q3⟩
      · exact absurd h (by decide)
  · exact absurd h (by decide)
def C_Mo_reads : rz_C := fun As μ P => ∃ (p : Nat) (d x : Int32), As = [.ref 19, .int (nI p), .int d, .int x] ∧ p ≤ 65535 ∧ (0 ≤ μ 19 21 → μ 19 21 < 8) ∧ (∀ i, i < 8 → ∃ z : Nat, z ≤ 24 ∧ μ 22 i = nI z) ∧ μ 19 32 = 0 ∧ (x < 0 ∨ ∃ e : Nat, e ≤ 255 ∧ x = nI e) ∧ PQ P (g_reads (nI p) d x μ)
def bk_Mo_reads : Nat → List rz_T := fun b => match b with
  | 0 => [tz_iload 2, tz_if_gt 1, tz_iload 3, tz_if_ge 2, tz_fall 1]
  | 1 => [tz_sipush 26368, tz_iret]
  | 2 => [tz_aload 0, tz_iconst 0, tz_iload 1, tz_cv SH 2 7 4 C_Mo_wrong, tz_istore 4, tz_iload 4, tz_if_le 3, tz_iload 4, tz_iret]
  | 3 => [tz_iload 3, tz_if_ne 4, tz_bipush 32, tz_goto 5]
  | 4 => [tz_iload 3, tz_fall 5]
  | 5 => [tz_istore 5, tz_aload 0, tz_get SH 7 2, tz_aload 0, tz_get SH 7 21, tz_iald SH, tz_iload 1, tz_isub, tz_istore 6, tz_iconst 0, tz_istore 7, tz_fall 6]
  | 6 => [tz_iload 7, tz_iload 5, tz_icmp_ge 7, tz_iload 7, tz_iload 6, tz_icmp_ge 7, tz_aload 0, tz_aload 0, tz_get SH 7 5, tz_bipush 24, tz_aload 0, tz_get SH 7 21, tz_imul, tz_iload 1, tz_iadd, tz_iload 7, tz_iadd, tz_iald SH, tz_cv SH 1 7 2 C_Mo_put, tz_iinc 7 1, tz_goto 6]
  | 7 => [tz_iload 5, tz_iload 6, tz_icmp_le 8, tz_sipush 25218, tz_goto 9]
  | 8 => [tz_ldc 36864, tz_fall 9]
  | 9 => [tz_iret]
  | _ => []
def bp_Mo_reads : Nat → Nat := fun b => match b with
  | 0 => 0
  | 1 => 8
  | 2 => 12
  | 3 => 28
  | 4 => 37
  | 5 => 38
  | 6 => 56
  | 7 => 97
  | 8 => 110
  | 9 => 112
  | _ => 0
set_option maxRecDepth 100000 in
set_option maxHeartbeats 4000000 in
theorem sd_Mo_reads (X : rz_X) (G : rz_Cx CL X c_Mo_reads 8 rz_tbl R_Mo ({ frames := 1, cells := 0, slots := 0, locals := 23 })) : ∀ b, rz_SB SH CL X bp_Mo_reads (rz_RI SH CL X c_Mo_reads (fun v => narrow .int (.int v) = .int v)) (bk_Mo_reads b) (bp_Mo_reads b) := fun b => match b with
  | 0 => (rz_cons (rz_iload_n G d_Mo_reads_0 rfl) (rz_cons (rz_if_gt G d_Mo_reads_1 (by decide)) (rz_cons (rz_iload_n G d_Mo_reads_4 rfl) (rz_cons (rz_if_ge G d_Mo_reads_5 (by decide)) (rz_fall rfl)))))
  | 1 => (rz_cons (rz_sipush G d_Mo_reads_8 (by decide)) (rz_cons (rz_iret (npc := 0) (fun _ => rfl) d_Mo_reads_11) rz_nil))
  | 2 => (rz_cons (rz_aload_n G d_Mo_reads_12 rfl) (rz_cons (rz_iconst G d_Mo_reads_13 (by decide)) (rz_cons (rz_iload_n G d_Mo_reads_14 rfl) (rz_cons (rz_cvi G (m_Mo_wrong X.1) cd_Mo_wrong wd_805 wd_807 wd_31 rfl rfl (by decide) d_Mo_reads_15) (rz_cons (rz_istore G d_Mo_reads_18 (by decide)) (rz_cons (rz_iload G d_Mo_reads_20) (rz_cons (rz_if_le G d_Mo_reads_22 (by decide)) (rz_cons (rz_iload G d_Mo_reads_25) (rz_cons (rz_iret (npc := 0) (fun _ => rfl) d_Mo_reads_27) rz_nil)))))))))
  | 3 => (rz_cons (rz_iload_n G d_Mo_reads_28 rfl) (rz_cons (rz_if_ne G d_Mo_reads_29 (by decide)) (rz_cons (rz_bipush G d_Mo_reads_32 (by decide)) (rz_cons (rz_goto (npc := 0) G d_Mo_reads_34 (by decide)) rz_nil))))
  | 4 => (rz_cons (rz_iload_n G d_Mo_reads_37 rfl) (rz_fall rfl))
  | 5 => (rz_cons (rz_istore G d_Mo_reads_38 (by decide)) (rz_cons (rz_aload_n G d_Mo_reads_40 rfl) (rz_cons (rz_get G rfl in_Mo (by decide) wd_621 d_Mo_reads_41) (rz_cons (rz_aload_n G d_Mo_reads_44 rfl) (rz_cons (rz_get G rfl in_Mo (by decide) wd_640 d_Mo_reads_45) (rz_cons (rz_iald G d_Mo_reads_48) (rz_cons (rz_iload_n G d_Mo_reads_49 rfl) (rz_cons (rz_isub G d_Mo_reads_50) (rz_cons (rz_istore G d_Mo_reads_51 (by decide)) (rz_cons (rz_iconst G d_Mo_reads_53 (by decide)) (rz_cons (rz_istore G d_Mo_reads_54 (by decide)) (rz_fall rfl))))))))))))
  | 6 => (rz_cons (rz_iload G d_Mo_reads_56) (rz_cons (rz_iload G d_Mo_reads_58) (rz_cons (rz_icmp_ge G d_Mo_reads_60 (by decide)) (rz_cons (rz_iload G d_Mo_reads_63) (rz_cons (rz_iload G d_Mo_reads_65) (rz_cons (rz_icmp_ge G d_Mo_reads_67 (by decide)) (rz_cons (rz_aload_n G d_Mo_reads_70 rfl) (rz_cons (rz_aload_n G d_Mo_reads_71 rfl) (rz_cons (rz_get G rfl in_Mo (by decide) wd_624 d_Mo_reads_72) (rz_cons (rz_bipush G d_Mo_reads_75 (by decide)) (rz_cons (rz_aload_n G d_Mo_reads_77 rfl) (rz_cons (rz_get G rfl in_Mo (by decide) wd_640 d_Mo_reads_78) (rz_cons (rz_imul G d_Mo_reads_81) (rz_cons (rz_iload_n G d_Mo_reads_82 rfl) (rz_cons (rz_iadd G d_Mo_reads_83) (rz_cons (rz_iload G d_Mo_reads_84) (rz_cons (rz_iadd G d_Mo_reads_86) (rz_cons (rz_iald G d_Mo_reads_87) (rz_cons (rz_cvv G (m_Mo_put X.1) cd_Mo_put wd_809 wd_811 wd_32 rfl rfl (by decide) d_Mo_reads_88) (rz_cons (rz_iinc G d_Mo_reads_91 (by decide) (by decide)) (rz_cons (rz_goto (npc := 0) G d_Mo_reads_94 (by decide)) rz_nil)))))))))))))))))))))
  | 7 => (rz_cons (rz_iload G d_Mo_reads_97) (rz_cons (rz_iload G d_Mo_reads_99) (rz_cons (rz_icmp_le G d_Mo_reads_101 (by decide)) (rz_cons (rz_sipush G d_Mo_reads_104 (by decide)) (rz_cons (rz_goto (npc := 0) G d_Mo_reads_107 (by decide)) rz_nil)))))
  | 8 => (rz_cons (rz_ldc G wd_800 d_Mo_reads_110) (rz_fall rfl))
  | 9 => (rz_cons (rz_iret (npc := 0) (fun _ => rfl) d_Mo_reads_112) rz_nil)
  | _ + 10 => rz_nil
set_option maxRecDepth 100000 in
set_option maxHeartbeats 4000000 in
theorem bd_Mo_reads : ∀ (Y : Nat → rz_K) (P : rz_P), (∀ b ls st μ, rz_ex P Y (bk_Mo_reads b) ls st μ → Y b ls st μ) → ∀ As μ, C_Mo_reads As μ P → Y 0 (rz_pad 8 (rz_ent As)) [] μ := by
  intro Y P hY As μ hC
  obtain ⟨p, d, x, rfl, hp16, h8, hz, h32, hex, hC⟩ := hC
  refine hY 0 _ _ _ (And.intro (fun h => hY 1 _ _ _ (rzT (PQ P) h hC)) (fun h => ?_))
  have hC := rzF (PQ P) h hC
  refine And.intro (fun hx0 => ?_) (fun h => hY 1 _ _ _ (rzF (PQ P) h hC))
  have hC := rzT (PQ P) hx0 hC
  refine hY 2 _ _ _ ⟨_, _, rfl, h8, And.intro (fun h2 => ?_) (fun h2 => rzF (PQ P) h2 hC)⟩
  have hC := rzT (PQ P) h2 hC
  obtain ⟨k0, -, k3⟩ := g_wr_ok h2
  obtain ⟨f, hf31, hf⟩ := nI_of (Int32.not_lt.mpr k0)
  have hf8 : f < 8 := by
    have := h8 k0
    rw [hf] at this
    exact (nI_ltI (b := 8) hf31 (by omega)).mp this
  obtain ⟨z, hz24, hzz⟩ := hz f hf8
  have cf : (μ 19 21).toNatClampNeg = f := nc hf hf31
  have hpz : p < z := by
    rw [cf, hzz] at k3
    exact (nI_ltI (by omega) (by omega)).mp k3
  obtain ⟨e, he255, he⟩ : ∃ e : Nat, e ≤ 255 ∧ x = nI e := by
    rcases hex with q | q
    · exact absurd hx0 (Int32.not_le.mpr q)
    · exact q
  obtain ⟨en, hen, hen2⟩ : ∃ en : Nat, en ≤ 255 ∧ g_exn x = nI en := by
    unfold g_exn
    split
    · exact ⟨e, he255, he⟩
    · exact ⟨32, by omega, rfl⟩
  have hth : g_th (nI p) μ = nI (z - p) := by unfold g_th; rw [cf, hzz]; exact pk_sub (by omega)
  have hb : (24 * μ 19 21 + nI p).toNatClampNeg = 24 * f + p := by
    rw [hf, show (24 : Int32) = nI 24 from rfl, pk_mul, nI_add]; exact nI_clamp (by omega)
  have hm : g_m (nI p) x μ = min en (z - p) := by unfold g_m; rw [hen2, hth, nI_clamp (by omega), nI_clamp (by omega)]
  obtain ⟨m, hmm⟩ : ∃ m, m = min en (z - p) := ⟨_, rfl⟩
  rw [hm, hb, ← hmm, hen2, hth] at hC
  have seven : Y 7 [some (.ref 19), some (.int (nI p)), some (.int d), some (.int x), some (.int (g_wr 0 (nI p) μ)), some (.int (nI en)), some (.int (nI (z - p))), some (.int (nI m))] [] (g_rdm m (24 * f + p) μ) := by
    refine hY 7 _ _ _ (And.intro (fun h => hY 8 _ _ _ (hY 9 _ _ _ (rzT (PQ P) h hC))) (fun h => hY 9 _ _ _ (rzF (PQ P) h hC)))
  have loop : ∀ (dd i : Nat), i + dd = m → Y 6 [some (.ref 19), some (.int (nI p)), some (.int d), some (.int x), some (.int (g_wr 0 (nI p) μ)), some (.int (nI en)), some (.int (nI (z - p))), some (.int (nI i))] [] (g_rdm i (24 * f + p) μ) := by
    intro dd
    induction dd with
    | zero =>
      intro i hi
      have : i = m := by omega
      subst this
      refine hY 6 _ _ _ (And.intro (fun _ => seven) (fun h => And.intro (fun _ => seven) (fun h2 => ?_)))
      exfalso
      rcases Nat.lt_or_ge i en with q | q
      · rcases Nat.lt_or_ge i (z - p) with q2 | q2
        · omega
        · exact h2 (nI_le q2 (by omega))
      · exact h (nI_le q (by omega))
    | succ dd ih =>
      intro i hi
      have ix : 24 * μ 19 21 + nI p + nI i = nI (24 * f + p + i) := by rw [hf, show (24 : Int32) = nI 24 from rfl, pk_mul, nI_add, nI_add]
      refine hY 6 _ _ _ (And.intro (fun h => absurd h (nI_ge (by omega) (by omega))) (fun _ => And.intro (fun h => absurd h (nI_ge (by omega) (by omega))) (fun _ => ?_)))
      show vp_in (24 * μ 19 21 + nI p + nI i) 192 ∧ ∃ (x1 : Int32) (a : Nat), [Value.ref 19, Value.int (μ 25 (24 * μ 19 21 + nI p + nI i).toNatClampNeg)] = [.ref 19, .int x1] ∧ g_rdm i (24 * f + p) μ 19 32 = nI a ∧ a < 40 ∧ Y 6 [some (.ref 19), some (.int (nI p)), some (.int d), some (.int x), some (.int (g_wr 0 (nI p) μ)), some (.int (nI en)), some (.int (nI (z - p))), some (.int (nI i + 1))] [] (g_put x1 a (g_rdm i (24 * f + p) μ))
      rw [ix, nI_clamp (by omega)]
      refine And.intro (vp_in_nI (by omega) (by omega)) ⟨_, i, rfl, ?_, by omega, ?_⟩
      · unfold g_rdm; exact rz_up_at
      · have e3 : g_put (μ 25 (24 * f + p + i)) i (g_rdm i (24 * f + p) μ) = g_rdm (i + 1) (24 * f + p) μ := by
          unfold g_put g_rdm
          rw [rz_up_comm (k := 19) (k2 := 29) (Or.inl (by decide)), rz_up_same]
          congr 1
          funext k
          by_cases hk : k = 29
          · subst hk
            rw [rz_uf_eq]
            funext j
            by_cases hj : j = i
            · subst hj
              rw [rz_up_at, pk_cpy_in (by omega) (by omega)]
              simp
            · rw [rz_up_j hj, rz_uf_eq]
              by_cases hl : j < i
              · rw [pk_cpy_in (by omega) (by omega), pk_cpy_in (by omega) (by omega)]
              · rw [pk_cpy_out (by omega), pk_cpy_out (by omega)]
          · rw [rz_up_k hk, rz_uf_ne hk, rz_uf_ne hk]
        have := ih (i + 1) (by omega)
        rw [nI_succ, ← e3] at this
        exact this
  have h0 := loop m 0 (by omega)
  have e0 : g_rdm 0 (24 * f + p) μ = μ := by
    unfold g_rdm
    have : rz_uf μ 29 (va_cpy (μ 25) (μ 29) (24 * f + p) 0 0) = μ := by
      funext k
      by_cases hk : k = 29
      · subst hk
        rw [rz_uf_eq]
        funext j
        rw [pk_cpy_out (by omega)]
      · rw [rz_uf_ne hk]
    rw [this]
    exact rz_up_id h32
  rw [e0, ← hen2, ← hth] at h0
  have hv : vp_in (μ 19 21) 8 := by rw [hf]; exact vp_in_nI hf8 (by omega)
  have five : ∀ q : Int32, q = g_exn x → Y 5 [some (.ref 19), some (.int (nI p)), some (.int d), some (.int x), some (.int (g_wr 0 (nI p) μ)), none, none, none] [.int q] μ := by
    intro q hq
    subst hq
    exact hY 5 _ _ _ (And.intro hv h0)
  exact hY 3 _ _ _ (And.intro (fun h => hY 4 _ _ _ (five _ (if_pos h).symm)) (fun h => five _ (if_neg (fun q => q h)).symm))
theorem m_Mo_reads (E : rz_E) : rz_MI SH CL E y_Mo_reads 8 (Cond.code y_Mo_reads c_Mo_reads 8 (some .int) :: rz_tbl) ({ frames := 1, cells := 0, slots := 0, locals := 23 }) C_Mo_reads := rz_metI (by decide) rfl (fun X _ G => sd_Mo_reads X G) bd_Mo_reads
theorem cd_Mo_reads : rz_Cd rz_tbl y_Mo_reads c_Mo_reads 8 (some .int) (Cond.code y_Mo_reads c_Mo_reads 8 (some .int) :: rz_tbl) 3 ({ frames := 1, cells := 0, slots := 0, locals := 23 }) := ⟨rz_good wd_804, ⟨_, rfl⟩, wd_47, by decide +kernel, rfl, rfl⟩
def g_wn : Nat → rz_M → Int32 × rz_M
  | 0, μ => (1, μ)
  | d + 1, μ => if μ 19 12 = 0 then (0, g_w μ) else g_wn d (g_w μ)
theorem g_wn_ne : ∀ (d : Nat) (μ : rz_M) {k : Nat}, k ≠ 19 → (g_wn d μ).2 k = μ k
  | 0, μ, k, h => rfl
  | d + 1, μ, k, h => by
    unfold g_wn
    split
    · exact g_w_ne h
    · rw [g_wn_ne d (g_w μ) h, g_w_ne h]
theorem g_wn_21 : ∀ (d : Nat) (μ : rz_M), (g_wn d μ).2 19 21 = μ 19 21
  | 0, μ => rfl
  | d + 1, μ => by
    unfold g_wn
    split
    · exact g_w_19 (by decide) (by decide) (by decide) (by decide) (by decide)
    · rw [g_wn_21 d (g_w μ), g_w_19 (by decide) (by decide) (by decide) (by decide) (by decide)]
def g_nt (p : Int32) (n : Nat) (μ : rz_M) : rz_M := rz_uf (rz_up (rz_up (rz_up μ 19 14 (μ 19 21)) 19 15 p) 19 16 (nI n)) 26 (va_cpy (μ 28) (μ 26) 5 0 n)
def g_chg2 (p : Int32) (n : Nat) (μ : rz_M) : Int32 × rz_M := if (g_wn (n + 2) μ).1 = 0 then (0, (g_wn (n + 2) μ).2) else (36864, (g_seL n 0 (g_nt p n (g_wn (n + 2) μ).2)).2)
def g_chg (p d x : Int32) (n : Nat) (μ : rz_M) : Int32 × rz_M := if d = 0 then (26368, μ) else if x < 0 then (if g_wr 1 p μ ≤ 0 then (if p + d ≤ μ 22 (μ 19 21).toNatClampNeg then g_chg2 p n μ else (27268, μ)) else (g_wr 1 p μ, μ)) else (26368, μ)
def C_Mo_changes : rz_C := fun As μ P => ∃ (p n : Nat) (x : Int32), As = [.ref 19, .int (nI p), .int (nI n), .int x] ∧ p ≤ 65535 ∧ n ≤ 32 ∧ (0 ≤ μ 19 21 → μ 19 21 < 8) ∧ (∀ i, i < 8 → ∃ z : Nat, z ≤ 24 ∧ μ 22 i = nI z) ∧ PQ P (g_chg (nI p) (nI n) x n μ)
def bk_Mo_changes : Nat → List rz_T := fun b => match b with
  | 0 => [tz_iload 2, tz_if_eq 1, tz_iload 3, tz_if_lt 2, tz_fall 1]
  | 1 => [tz_sipush 26368, tz_iret]
  | 2 => [tz_aload 0, tz_iconst 1, tz_iload 1, tz_cv SH 2 7 4 C_Mo_wrong, tz_istore 4, tz_iload 4, tz_if_le 3, tz_iload 4, tz_iret]
  | 3 => [tz_iload 1, tz_iload 2, tz_iadd, tz_aload 0, tz_get SH 7 2, tz_aload 0, tz_get SH 7 21, tz_iald SH, tz_icmp_le 4, tz_sipush 27268, tz_iret]
  | 4 => [tz_iconst 0, tz_istore 5, tz_fall 5]
  | 5 => [tz_iload 5, tz_iload 2, tz_iconst 2, tz_iadd, tz_icmp_ge 7, tz_aload 0, tz_cv SH 0 7 1 C_Mo_writes, tz_istore 6, tz_iload 6, tz_if_ne 6, tz_iconst 0, tz_iret]
  | 6 => [tz_iinc 5 1, tz_goto 5]
  | 7 => [tz_aload 0, tz_aload 0, tz_get SH 7 21, tz_put SH 7 14, tz_aload 0, tz_iload 1, tz_put SH 7 15, tz_aload 0, tz_iload 2, tz_put SH 7 16, tz_iconst 0, tz_istore 5, tz_fall 8]
  | 8 => [tz_iload 5, tz_iload 2, tz_icmp_ge 9, tz_aload 0, tz_get SH 7 13, tz_iload 5, tz_aload 0, tz_get SH 7 26, tz_iconst 5, tz_iload 5, tz_iadd, tz_iald SH, tz_iast SH, tz_iinc 5 1, tz_goto 8]
  | 9 => [tz_aload 0, tz_cv SH 0 7 3 C_Mo_settle, tz_pop, tz_ldc 36864, tz_iret]
  | _ => []
def bp_Mo_changes : Nat → Nat := fun b => match b with
  | 0 => 0
  | 1 => 8
  | 2 => 12
  | 3 => 28
  | 4 => 47
  | 5 => 50
  | 6 => 71
  | 7 => 77
  | 8 => 98
  | 9 => 126
  | _ => 0
set_option maxRecDepth 100000 in
set_option maxHeartbeats 4000000 in
theorem sd_Mo_changes (X : rz_X) (G : rz_Cx CL X c_Mo_changes 7 rz_tbl R_Mo ({ frames := 2, cells := 0, slots := 0, locals := 42 })) : ∀ b, rz_SB SH CL X bp_Mo_changes (rz_RI SH CL X c_Mo_changes (fun v => narrow .int (.int v) = .int v)) (bk_Mo_changes b) (bp_Mo_changes b) := fun b => match b with
  | 0 => (rz_cons (rz_iload_n G d_Mo_changes_0 rfl) (rz_cons (rz_if_eq G d_Mo_changes_1 (by decide)) (rz_cons (rz_iload_n G d_Mo_changes_4 rfl) (rz_cons (rz_if_lt G d_Mo_changes_5 (by decide)) (rz_fall rfl)))))
  | 1 => (rz_cons (rz_sipush G d_Mo_changes_8 (by decide)) (rz_cons (rz_iret (npc := 0) (fun _ => rfl) d_Mo_changes_11) rz_nil))
  | 2 => (rz_cons (rz_aload_n G d_Mo_changes_12 rfl) (rz_cons (rz_iconst G d_Mo_changes_13 (by decide)) (rz_cons (rz_iload_n G d_Mo_changes_14 rfl) (rz_cons (rz_cvi G (m_Mo_wrong X.1) cd_Mo_wrong wd_805 wd_807 wd_31 rfl rfl (by decide) d_Mo_changes_15) (rz_cons (rz_istore G d_Mo_changes_18 (by decide)) (rz_cons (rz_iload G d_Mo_changes_20) (rz_cons (rz_if_le G d_Mo_changes_22 (by decide)) (rz_cons (rz_iload G d_Mo_changes_25) (rz_cons (rz_iret (npc := 0) (fun _ => rfl) d_Mo_changes_27) rz_nil)))))))))
  | 3 => (rz_cons (rz_iload_n G d_Mo_changes_28 rfl) (rz_cons (rz_iload_n G d_Mo_changes_29 rfl) (rz_cons (rz_iadd G d_Mo_changes_30) (rz_cons (rz_aload_n G d_Mo_changes_31 rfl) (rz_cons (rz_get G rfl in_Mo (by decide) wd_621 d_Mo_changes_32) (rz_cons (rz_aload_n G d_Mo_changes_35 rfl) (rz_cons (rz_get G rfl in_Mo (by decide) wd_640 d_Mo_changes_36) (rz_cons (rz_iald G d_Mo_changes_39) (rz_cons (rz_icmp_le G d_Mo_changes_40 (by decide)) (rz_cons (rz_sipush G d_Mo_changes_43 (by decide)) (rz_cons (rz_iret (npc := 0) (fun _ => rfl) d_Mo_changes_46) rz_nil)))))))))))
  | 4 => (rz_cons (rz_iconst G d_Mo_changes_47 (by decide)) (rz_cons (rz_istore G d_Mo_changes_48 (by decide)) (rz_fall rfl)))
  | 5 => (rz_cons (rz_iload G d_Mo_changes_50) (rz_cons (rz_iload_n G d_Mo_changes_52 rfl) (rz_cons (rz_iconst G d_Mo_changes_53 (by decide)) (rz_cons (rz_iadd G d_Mo_changes_54) (rz_cons (rz_icmp_ge G d_Mo_changes_55 (by decide)) (rz_cons (rz_aload_n G d_Mo_changes_58 rfl) (rz_cons (rz_cvi G (m_Mo_writes X.1) cd_Mo_writes wd_751 wd_753 wd_20 rfl rfl (by decide) d_Mo_changes_59) (rz_cons (rz_istore G d_Mo_changes_62 (by decide)) (rz_cons (rz_iload G d_Mo_changes_64) (rz_cons (rz_if_ne G d_Mo_changes_66 (by decide)) (rz_cons (rz_iconst G d_Mo_changes_69 (by decide)) (rz_cons (rz_iret (npc := 0) (fun _ => rfl) d_Mo_changes_70) rz_nil))))))))))))
  | 6 => (rz_cons (rz_iinc G d_Mo_changes_71 (by decide) (by decide)) (rz_cons (rz_goto (npc := 0) G d_Mo_changes_74 (by decide)) rz_nil))
  | 7 => (rz_cons (rz_aload_n G d_Mo_changes_77 rfl) (rz_cons (rz_aload_n G d_Mo_changes_78 rfl) (rz_cons (rz_get G rfl in_Mo (by decide) wd_640 d_Mo_changes_79) (rz_cons (rz_put G rfl in_Mo ty_Mo tyok_Mo nm_Mo (by decide) rfl (by decide +kernel) wd_633 d_Mo_changes_82) (rz_cons (rz_aload_n G d_Mo_changes_85 rfl) (rz_cons (rz_iload_n G d_Mo_changes_86 rfl) (rz_cons (rz_put G rfl in_Mo ty_Mo tyok_Mo nm_Mo (by decide) rfl (by decide +kernel) wd_634 d_Mo_changes_87) (rz_cons (rz_aload_n G d_Mo_changes_90 rfl) (rz_cons (rz_iload_n G d_Mo_changes_91 rfl) (rz_cons (rz_put G rfl in_Mo ty_Mo tyok_Mo nm_Mo (by decide) rfl (by decide +kernel) wd_635 d_Mo_changes_92) (rz_cons (rz_iconst G d_Mo_changes_95 (by decide)) (rz_cons (rz_istore G d_Mo_changes_96 (by decide)) (rz_fall rfl)))))))))))))
  | 8 => (rz_cons (rz_iload G d_Mo_changes_98) (rz_cons (rz_iload_n G d_Mo_changes_100 rfl) (rz_cons (rz_icmp_ge G d_Mo_changes_101 (by decide)) (rz_cons (rz_aload_n G d_Mo_changes_104 rfl) (rz_cons (rz_get G rfl in_Mo (by decide) wd_632 d_Mo_changes_105) (rz_cons (rz_iload G d_Mo_changes_108) (rz_cons (rz_aload_n G d_Mo_changes_110 rfl) (rz_cons (rz_get G rfl in_Mo (by decide) wd_645 d_Mo_changes_111) (rz_cons (rz_iconst G d_Mo_changes_114 (by decide)) (rz_cons (rz_iload G d_Mo_changes_115) (rz_cons (rz_iadd G d_Mo_changes_117) (rz_cons (rz_iald G d_Mo_changes_118) (rz_cons (rz_iast G d_Mo_changes_119) (rz_cons (rz_iinc G d_Mo_changes_120 (by decide) (by decide)) (rz_cons (rz_goto (npc := 0) G d_Mo_changes_123 (by decide)) rz_nil)))))))))))))))
  | 9 => (rz_cons (rz_aload_n G d_Mo_changes_126 rfl) (rz_cons (rz_cvi G (m_Mo_settle X.1) cd_Mo_settle wd_747 wd_749 wd_19 rfl rfl (by decide) d_Mo_changes_127) (rz_cons (rz_pop G d_Mo_changes_130) (rz_cons (rz_ldc G wd_800 d_Mo_changes_131) (rz_cons (rz_iret (npc := 0) (fun _ => rfl) d_Mo_changes_133) rz_nil)))))
  | _ + 10 => rz_nil
set_option maxRecDepth 100000 in
set_option maxHeartbeats 4000000 in
theorem bd_Mo_changes : ∀ (Y : Nat → rz_K) (P : rz_P), (∀ b ls st μ, rz_ex P Y (bk_Mo_changes b) ls st μ → Y b ls st μ) → ∀ As μ, C_Mo_changes As μ P → Y 0 (rz_pad 7 (rz_ent As)) [] μ := by
  intro Y P hY As μ hC
  obtain ⟨p, n, x, rfl, hp16, hn32, h8, hz, hC⟩ := hC
  refine hY 0 _ _ _ (And.intro (fun h => hY 1 _ _ _ (rzT (PQ P) h hC)) (fun h => ?_))
  have hC := rzF (PQ P) h hC
  refine And.intro (fun h => ?_) (fun h => hY 1 _ _ _ (rzF (PQ P) h hC))
  have hC := rzT (PQ P) h hC
  refine hY 2 _ _ _ ⟨_, _, rfl, h8, And.intro (fun h2 => ?_) (fun h2 => rzF (PQ P) h2 hC)⟩
  have hC := rzT (PQ P) h2 hC
  obtain ⟨k0, -, -⟩ := g_wr_ok h2
  obtain ⟨f, hf31, hf⟩ := nI_of (Int32.not_lt.mpr k0)
  have hf8 : f < 8 := by
    have := h8 k0
    rw [hf] at this
    exact (nI_ltI (b := 8) hf31 (by omega)).mp this
  obtain ⟨z, hz24, hzz⟩ := hz f hf8
  have cf : (μ 19 21).toNatClampNeg = f := nc hf hf31
  refine hY 3 _ _ _ (And.intro ?_ (And.intro (fun h3 => ?_) (fun h3 => rzF (PQ P) h3 hC)))
  · rw [hf]; exact vp_in_nI hf8 (by omega)
  have hC := rzT (PQ P) h3 hC
  have hpn : p + n ≤ z := by
    rw [cf, hzz, nI_add] at h3
    exact (nI_leI (by omega) (by omega)).mp h3
  have cp : ∀ (d i : Nat) (y : Option Value) (ν : rz_M) (g : Nat → Int32), i + d = n → P (some (.int 36864)) (g_seL n 0 (rz_uf ν 26 (va_cpy (ν 28) g 5 0 n))).2 → ν 26 = va_cpy (ν 28) g 5 0 i → ν 19 16 = nI n → ν 19 14 = nI f → ν 19 15 = nI p → Y 8 [some (.ref 19), some (.int (nI p)), some (.int (nI n)), some (.int x), some (.int (g_wr 1 (nI p) μ)), some (.int (nI i)), y] [] ν := by
    intro d
    induction d with
    | zero =>
      intro i y ν g hi hp hg h16 h14 h15
      have : i = n := by omega
      subst this
      refine hY 8 _ _ _ (And.intro (fun _ => hY 9 _ _ _ ⟨i, f, p, rfl, h16, h14, h15, hf8, by omega, ?_⟩) (fun h => absurd (Int32.le_refl _) h))
      have e : rz_uf ν 26 (va_cpy (ν 28) g 5 0 i) = ν := by
        funext k
        by_cases hk : k = 26
        · subst hk; rw [rz_uf_eq, hg]
        · rw [rz_uf_ne hk]
      rw [e] at hp
      exact hp
    | succ d ih =>
      intro i y ν g hi hp hg h16 h14 h15
      have c1 : (nI i).toNatClampNeg = i := nI_clamp (by omega)
      have e5 : (5 : Int32) + nI i = nI (5 + i) := by rw [show (5 : Int32) = nI 5 from rfl, nI_add]
      refine hY 8 _ _ _ (And.intro (fun h => absurd h (nI_ge (by omega) (by omega))) (fun _ => ?_))
      show vp_in (5 + nI i) 40 ∧ vp_in (nI i) 24 ∧ Y 8 [some (.ref 19), some (.int (nI p)), some (.int (nI n)), some (.int x), some (.int (g_wr 1 (nI p) μ)), some (.int (nI i + 1)), y] [] (rz_up ν 26 (nI i).toNatClampNeg (ν 28 (5 + nI i).toNatClampNeg))
      rw [e5, c1, nI_clamp (by omega)]
      refine And.intro (vp_in_nI (by omega) (by omega)) (And.intro (vp_in_nI (by omega) (by omega)) ?_)
      have := ih (i + 1) y (rz_up ν 26 i (ν 28 (5 + i))) g (by omega) ?_ ?_ h16 h14 h15
      · rw [nI_succ] at this
        exact this
      · have e : rz_uf (rz_up ν 26 i (ν 28 (5 + i))) 26 (va_cpy (rz_up ν 26 i (ν 28 (5 + i)) 28) g 5 0 n) = rz_uf ν 26 (va_cpy (ν 28) g 5 0 n) := by
          funext k
          by_cases hk : k = 26
          · subst hk; rw [rz_uf_eq, rz_uf_eq, rz_up_k (by decide)]
          · rw [rz_uf_ne hk, rz_uf_ne hk, rz_up_k hk]
        rw [e]; exact hp
      · rw [rz_up_k (k' := 28) (by decide)]
        funext j
        by_cases hj : j = i
        · subst hj
          rw [rz_up_at, pk_cpy_in (by omega) (by omega)]
          simp
        · rw [rz_up_j hj, hg]
          by_cases hl : j < i
          · rw [pk_cpy_in (by omega) (by omega), pk_cpy_in (by omega) (by omega)]
          · rw [pk_cpy_out (by omega), pk_cpy_out (by omega)]
  have wr : ∀ (d i : Nat) (y : Option Value) (ν : rz_M), i + d = n + 2 → ν 19 21 = nI f → ((g_wn d ν).1 = 0 → P (some (.int 0)) (g_wn d ν).2) → (¬ (g_wn d ν).1 = 0 → P (some (.int 36864)) (g_seL n 0 (g_nt (nI p) n (g_wn d ν).2)).2) → Y 5 [some (.ref 19), some (.int (nI p)), some (.int (nI n)), some (.int x), some (.int (g_wr 1 (nI p) μ)), some (.int (nI i)), y] [] ν := by
    intro d
    induction d with
    | zero =>
      intro i y ν hi h21 hp0 hp1
      have : i = n + 2 := by omega
      subst this
      refine hY 5 _ _ _ (And.intro (fun _ => ?_) (fun h => absurd ?_ h))
      · refine hY 7 _ _ _ (cp n 0 y _ (ν 26) (by omega) ?_ ?_ ?_ ?_ ?_)
        · have := hp1 (by show ¬ (1 : Int32) = 0; decide)
          exact this
        · funext j
          rw [pk_cpy_out (by omega)]
          rfl
        · rfl
        · exact h21
        · rfl
      · rw [show (2 : Int32) = nI 2 from rfl, nI_add]; exact Int32.le_refl _
    | succ d ih =>
      intro i y ν hi h21 hp0 hp1
      refine hY 5 _ _ _ (And.intro (fun h => absurd h ?_) (fun _ => And.intro rfl (And.intro (fun h => ?_) (fun h => ?_))))
      · rw [show (2 : Int32) = nI 2 from rfl, nI_add]; exact nI_ge (by omega) (by omega)
      · have h0 := b2_ne h
        rw [g_wn, if_neg h0] at hp0 hp1
        refine hY 6 _ _ _ ?_
        have := ih (i + 1) (some (.int (b2 (¬ ν 19 12 = 0)))) (g_w ν) (by omega) (by rw [g_w_19 (by decide) (by decide) (by decide) (by decide) (by decide)]; exact h21) hp0 hp1
        rw [nI_succ] at this
        exact this
      · have h0 : ν 19 12 = 0 := Decidable.not_not.mp (b2_eq h)
        rw [g_wn, if_pos h0] at hp0
        exact hp0 rfl
  refine hY 4 _ _ _ (wr (n + 2) 0 none μ (by omega) hf (fun h => ?_) (fun h => ?_))
  · unfold g_chg2 at hC; rw [if_pos h] at hC; exact hC
  · unfold g_chg2 at hC; rw [if_neg h] at hC; exact hC
theorem m_Mo_changes (E : rz_E) : rz_MI SH CL E y_Mo_changes 7 (Cond.code y_Mo_changes c_Mo_changes 7 (some .int) :: rz_tbl) ({ frames := 2, cells := 0, slots := 0, locals := 42 }) C_Mo_changes := rz_metI (by decide) rfl (fun X _ G => sd_Mo_changes X G) bd_Mo_changes
theorem cd_Mo_changes : rz_Cd rz_tbl y_Mo_changes c_Mo_changes 7 (some .int) (Cond.code y_Mo_changes c_Mo_changes 7 (some .int) :: rz_tbl) 3 ({ frames := 2, cells := 0, slots := 0, locals := 42 }) := ⟨rz_good wd_816, ⟨_, rfl⟩, wd_47, by decide +kernel, rfl, rfl⟩
