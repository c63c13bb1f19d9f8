def g_say0 (x : Int32) (n : Nat) (μ : rz_M) : rz_M := rz_up (rz_uf μ 30 (fr (μ 30) x n (fun k => μ 30 (3 + k)))) 19 34 (nI (n + 4))
def g_say1 (x : Int32) (n : Nat) (σ : rz_M) : rz_M := rz_uf (rz_up (rz_up σ 19 35 (nI (n + 4))) 19 36 (if 128 ≤ x then 0 else 1)) 31 (va_cpy (σ 30) (σ 31) 0 0 (n + 4))
def g_say (x : Int32) (n : Nat) (μ : rz_M) : rz_M := if x < 192 then g_say1 x n (g_say0 x n μ) else g_say0 x n μ
theorem fa_self (f : Nat → Int32) (x : Int32) (n : Nat) (μ : rz_M) (h : μ 30 = f) : rz_up (rz_up (rz_up μ 30 0 0) 30 1 x) 30 2 (nI n) = rz_uf μ 30 (fa f x n (fun k => f (3 + k))) := by
  subst h
  funext k
  by_cases hk : k = 30
  · subst hk
    rw [rz_uf_eq]
    funext j
    by_cases h2 : j = 2
    · subst h2; rw [rz_up_at]; rfl
    · rw [rz_up_j h2]
      by_cases h1 : j = 1
      · subst h1; rw [rz_up_at]; rfl
      · rw [rz_up_j h1]
        by_cases h0 : j = 0
        · subst h0; rw [rz_up_at]; rfl
        · rw [rz_up_j h0]
          unfold fa
          rw [if_neg h0, if_neg h1, if_neg h2]
          split
          · congr 1; omega
          · rfl
  · rw [rz_up_k hk, rz_up_k hk, rz_up_k hk, rz_uf_ne hk]
def C_Mo_say : rz_C := fun As μ P => ∃ (x : Int32) (n : Nat), As = [.ref 19, .int x, .int (nI n)] ∧ n ≤ 32 ∧ P none (g_say x n μ)
def bk_Mo_say : Nat → List rz_T := fun b => match b with
  | 0 => [tz_aload 0, tz_get SH 7 28, tz_iconst 0, tz_iconst 0, tz_iast SH, tz_aload 0, tz_get SH 7 28, tz_iconst 1, tz_iload 1, tz_iast SH, tz_aload 0, tz_get SH 7 28, tz_iconst 2, tz_iload 2, tz_iast SH, tz_iload 1, tz_iload 2, tz_ixor, tz_istore 3, tz_iconst 0, tz_istore 4, tz_fall 1]
  | 1 => [tz_iload 4, tz_iload 2, tz_icmp_ge 2, tz_iload 3, tz_aload 0, tz_get SH 7 28, tz_iconst 3, tz_iload 4, tz_iadd, tz_iald SH, tz_ixor, tz_istore 3, tz_iinc 4 1, tz_goto 1]
  | 2 => [tz_aload 0, tz_get SH 7 28, tz_iconst 3, tz_iload 2, tz_iadd, tz_iload 3, tz_iast SH, tz_aload 0, tz_iload 2, tz_iconst 4, tz_iadd, tz_put SH 7 34, tz_iload 1, tz_sipush 192, tz_icmp_lt 3, tz_vret]
  | 3 => [tz_aload 0, tz_aload 0, tz_get SH 7 34, tz_put SH 7 35, tz_aload 0, tz_iload 1, tz_sipush 128, tz_icmp_ge 4, tz_iconst 1, tz_goto 5]
  | 4 => [tz_iconst 0, tz_fall 5]
  | 5 => [tz_putz SH 7 36, tz_iconst 0, tz_istore 4, tz_fall 6]
  | 6 => [tz_iload 4, tz_aload 0, tz_get SH 7 34, tz_icmp_ge 7, tz_aload 0, tz_get SH 7 29, tz_iload 4, tz_aload 0, tz_get SH 7 28, tz_iload 4, tz_iald SH, tz_iast SH, tz_iinc 4 1, tz_goto 6]
  | 7 => [tz_vret]
  | _ => []
def bp_Mo_say : Nat → Nat := fun b => match b with
  | 0 => 0
  | 1 => 28
  | 2 => 52
  | 3 => 76
  | 4 => 96
  | 5 => 97
  | 6 => 103
  | 7 => 132
  | _ => 0
set_option maxRecDepth 100000 in
set_option maxHeartbeats 4000000 in
theorem sd_Mo_say (X : rz_X) (G : rz_Cx CL X c_Mo_say 5 rz_tbl R_Mo ({ frames := 0, cells := 0, slots := 0, locals := 0 })) : ∀ b, rz_SB SH CL X bp_Mo_say (rz_RV SH CL X c_Mo_say) (bk_Mo_say b) (bp_Mo_say b) := fun b => match b with
  | 0 => (rz_cons (rz_aload_n G d_Mo_say_0 rfl) (rz_cons (rz_get G rfl in_Mo (by decide) wd_647 d_Mo_say_1) (rz_cons (rz_iconst G d_Mo_say_4 (by decide)) (rz_cons (rz_iconst G d_Mo_say_5 (by decide)) (rz_cons (rz_iast G d_Mo_say_6) (rz_cons (rz_aload_n G d_Mo_say_7 rfl) (rz_cons (rz_get G rfl in_Mo (by decide) wd_647 d_Mo_say_8) (rz_cons (rz_iconst G d_Mo_say_11 (by decide)) (rz_cons (rz_iload_n G d_Mo_say_12 rfl) (rz_cons (rz_iast G d_Mo_say_13) (rz_cons (rz_aload_n G d_Mo_say_14 rfl) (rz_cons (rz_get G rfl in_Mo (by decide) wd_647 d_Mo_say_15) (rz_cons (rz_iconst G d_Mo_say_18 (by decide)) (rz_cons (rz_iload_n G d_Mo_say_19 rfl) (rz_cons (rz_iast G d_Mo_say_20) (rz_cons (rz_iload_n G d_Mo_say_21 rfl) (rz_cons (rz_iload_n G d_Mo_say_22 rfl) (rz_cons (rz_ixor G d_Mo_say_23) (rz_cons (rz_istore_n G d_Mo_say_24 rfl (by decide)) (rz_cons (rz_iconst G d_Mo_say_25 (by decide)) (rz_cons (rz_istore G d_Mo_say_26 (by decide)) (rz_fall rfl))))))))))))))))))))))
  | 1 => (rz_cons (rz_iload G d_Mo_say_28) (rz_cons (rz_iload_n G d_Mo_say_30 rfl) (rz_cons (rz_icmp_ge G d_Mo_say_31 (by decide)) (rz_cons (rz_iload_n G d_Mo_say_34 rfl) (rz_cons (rz_aload_n G d_Mo_say_35 rfl) (rz_cons (rz_get G rfl in_Mo (by decide) wd_647 d_Mo_say_36) (rz_cons (rz_iconst G d_Mo_say_39 (by decide)) (rz_cons (rz_iload G d_Mo_say_40) (rz_cons (rz_iadd G d_Mo_say_42) (rz_cons (rz_iald G d_Mo_say_43) (rz_cons (rz_ixor G d_Mo_say_44) (rz_cons (rz_istore_n G d_Mo_say_45 rfl (by decide)) (rz_cons (rz_iinc G d_Mo_say_46 (by decide) (by decide)) (rz_cons (rz_goto (npc := 0) G d_Mo_say_49 (by decide)) rz_nil))))))))))))))
  | 2 => (rz_cons (rz_aload_n G d_Mo_say_52 rfl) (rz_cons (rz_get G rfl in_Mo (by decide) wd_647 d_Mo_say_53) (rz_cons (rz_iconst G d_Mo_say_56 (by decide)) (rz_cons (rz_iload_n G d_Mo_say_57 rfl) (rz_cons (rz_iadd G d_Mo_say_58) (rz_cons (rz_iload_n G d_Mo_say_59 rfl) (rz_cons (rz_iast G d_Mo_say_60) (rz_cons (rz_aload_n G d_Mo_say_61 rfl) (rz_cons (rz_iload_n G d_Mo_say_62 rfl) (rz_cons (rz_iconst G d_Mo_say_63 (by decide)) (rz_cons (rz_iadd G d_Mo_say_64) (rz_cons (rz_put G rfl in_Mo ty_Mo tyok_Mo nm_Mo (by decide) rfl (by decide +kernel) wd_653 d_Mo_say_65) (rz_cons (rz_iload_n G d_Mo_say_68 rfl) (rz_cons (rz_sipush G d_Mo_say_69 (by decide)) (rz_cons (rz_icmp_lt G d_Mo_say_72 (by decide)) (rz_cons (rz_vret (npc := 0) d_Mo_say_75) rz_nil))))))))))))))))
  | 3 => (rz_cons (rz_aload_n G d_Mo_say_76 rfl) (rz_cons (rz_aload_n G d_Mo_say_77 rfl) (rz_cons (rz_get G rfl in_Mo (by decide) wd_653 d_Mo_say_78) (rz_cons (rz_put G rfl in_Mo ty_Mo tyok_Mo nm_Mo (by decide) rfl (by decide +kernel) wd_654 d_Mo_say_81) (rz_cons (rz_aload_n G d_Mo_say_84 rfl) (rz_cons (rz_iload_n G d_Mo_say_85 rfl) (rz_cons (rz_sipush G d_Mo_say_86 (by decide)) (rz_cons (rz_icmp_ge G d_Mo_say_89 (by decide)) (rz_cons (rz_iconst G d_Mo_say_92 (by decide)) (rz_cons (rz_goto (npc := 0) G d_Mo_say_93 (by decide)) rz_nil))))))))))
  | 4 => (rz_cons (rz_iconst G d_Mo_say_96 (by decide)) (rz_fall rfl))
  | 5 => (rz_cons (rz_putz G rfl in_Mo ty_Mo tyok_Mo nm_Mo (by decide) rfl (by decide +kernel) wd_655 d_Mo_say_97) (rz_cons (rz_iconst G d_Mo_say_100 (by decide)) (rz_cons (rz_istore G d_Mo_say_101 (by decide)) (rz_fall rfl))))
  | 6 => (rz_cons (rz_iload G d_Mo_say_103) (rz_cons (rz_aload_n G d_Mo_say_105 rfl) (rz_cons (rz_get G rfl in_Mo (by decide) wd_653 d_Mo_say_106) (rz_cons (rz_icmp_ge G d_Mo_say_109 (by decide)) (rz_cons (rz_aload_n G d_Mo_say_112 rfl) (rz_cons (rz_get G rfl in_Mo (by decide) wd_648 d_Mo_say_113) (rz_cons (rz_iload G d_Mo_say_116) (rz_cons (rz_aload_n G d_Mo_say_118 rfl) (rz_cons (rz_get G rfl in_Mo (by decide) wd_647 d_Mo_say_119) (rz_cons (rz_iload G d_Mo_say_122) (rz_cons (rz_iald G d_Mo_say_124) (rz_cons (rz_iast G d_Mo_say_125) (rz_cons (rz_iinc G d_Mo_say_126 (by decide) (by decide)) (rz_cons (rz_goto (npc := 0) G d_Mo_say_129 (by decide)) rz_nil))))))))))))))
  | 7 => (rz_cons (rz_vret (npc := 0) d_Mo_say_132) rz_nil)
  | _ + 8 => rz_nil
set_option maxRecDepth 100000 in
set_option maxHeartbeats 4000000 in
theorem bd_Mo_say : ∀ (Y : Nat → rz_K) (P : rz_P), (∀ b ls st μ, rz_ex P Y (bk_Mo_say b) ls st μ → Y b ls st μ) → ∀ As μ, C_Mo_say As μ P → Y 0 (rz_pad 5 (rz_ent As)) [] μ := by
  intro Y P hY As μ hC
  obtain ⟨x, n, rfl, h32, hC⟩ := hC
  have cpy : ∀ (d i : Nat) (s : Int32) (τ : rz_M) (g : Nat → Int32), i + d = n + 4 → τ 19 34 = nI (n + 4) → P none (rz_uf τ 31 (va_cpy (τ 30) g 0 0 (n + 4))) → τ 31 = va_cpy (τ 30) g 0 0 i → Y 6 [some (.ref 19), some (.int x), some (.int (nI n)), some (.int s), some (.int (nI i))] [] τ := by
    intro d
    induction d with
    | zero =>
      intro i s τ g hi h34 hp hg
      have : i = n + 4 := by omega
      subst this
      refine hY 6 _ _ _ (And.intro (fun _ => hY 7 _ _ _ ?_) (fun h => absurd ?_ h))
      · have e : rz_uf τ 31 (va_cpy (τ 30) g 0 0 (n + 4)) = τ := by
          funext k
          by_cases hk : k = 31
          · subst hk; rw [rz_uf_eq, hg]
          · rw [rz_uf_ne hk]
        rw [e] at hp
        exact hp
      · show τ 19 34 ≤ nI (n + 4)
        rw [h34]; exact Int32.le_refl _
    | succ d ih =>
      intro i s τ g hi h34 hp hg
      have c1 : (nI i).toNatClampNeg = i := nI_clamp (by omega)
      refine hY 6 _ _ _ (And.intro (fun (h : τ 19 34 ≤ nI i) => absurd h ?_) (fun _ => And.intro (vp_in_nI (by omega) (by omega)) (And.intro (vp_in_nI (by omega) (by omega)) ?_)))
      · rw [h34]; exact nI_ge (by omega) (by omega)
      · rw [c1]
        have := ih (i + 1) s (rz_up τ 31 i (τ 30 i)) g (by omega) h34 ?_ ?_
        · rw [nI_succ] at this
          exact this
        · have e : rz_uf (rz_up τ 31 i (τ 30 i)) 31 (va_cpy (rz_up τ 31 i (τ 30 i) 30) g 0 0 (n + 4)) = rz_uf τ 31 (va_cpy (τ 30) g 0 0 (n + 4)) := by
            funext k
            by_cases hk : k = 31
            · subst hk; rw [rz_uf_eq, rz_uf_eq, rz_up_k (by decide)]
            · rw [rz_uf_ne hk, rz_uf_ne hk, rz_up_k hk]
          rw [e]; exact hp
        · rw [rz_up_k (k' := 30) (by decide)]
          funext j
          by_cases hj : j = i
          · subst hj
            rw [rz_up_at, pk_cpy_in (by omega) (by omega)]
            simp
          · rw [rz_up_j hj, hg]
            by_cases hl : j < i
            · rw [pk_cpy_in (by omega) (by omega), pk_cpy_in (by omega) (by omega)]
            · rw [pk_cpy_out (by omega), pk_cpy_out (by omega)]
  have aft : ∀ (s i : Int32) (σ : rz_M), σ = g_say0 x n μ → (x < 192 → Y 3 [some (.ref 19), some (.int x), some (.int (nI n)), some (.int s), some (.int i)] [] σ) := by
    intro s i σ hσ hx
    have hC := rzT (P none) hx hC
    rw [← hσ] at hC
    have h34 : σ 19 34 = nI (n + 4) := by rw [hσ]; unfold g_say0; exact rz_up_at
    have five : ∀ z : Int32, (z = 0 ∨ z = 1) → z = (if 128 ≤ x then 0 else 1) → Y 5 [some (.ref 19), some (.int x), some (.int (nI n)), some (.int s), some (.int i)] [.int z, .ref 19] (rz_up σ 19 35 (nI (n + 4))) := by
      intro z hz01 hz
      refine hY 5 _ _ _ (And.intro hz01 (cpy (n + 4) 0 s _ (σ 31) (by omega) h34 ?_ ?_))
      · unfold g_say1 at hC
        rw [← hz] at hC
        exact hC
      · funext j
        rw [pk_cpy_out (by omega)]
        rfl
    refine hY 3 _ _ _ ?_
    show (128 ≤ x → Y 4 [some (.ref 19), some (.int x), some (.int (nI n)), some (.int s), some (.int i)] [.ref 19] (rz_up σ 19 35 (σ 19 34))) ∧ (¬ 128 ≤ x → Y 5 [some (.ref 19), some (.int x), some (.int (nI n)), some (.int s), some (.int i)] [.int 1, .ref 19] (rz_up σ 19 35 (σ 19 34)))
    rw [h34]
    exact And.intro (fun h => hY 4 _ _ _ (five 0 (Or.inl rfl) (if_pos h).symm)) (fun h => five 1 (Or.inr rfl) (if_neg h).symm)
  have sum : ∀ (d i : Nat), i + d = n → Y 1 [some (.ref 19), some (.int x), some (.int (nI n)), some (.int (xr (x ^^^ nI n) (fun k => μ 30 (3 + k)) i)), some (.int (nI i))] [] (rz_uf μ 30 (fa (μ 30) x n (fun k => μ 30 (3 + k)))) := by
    intro d
    induction d with
    | zero =>
      intro i hi
      have : i = n := by omega
      subst this
      have e3 : (3 : Int32) + nI i = nI (3 + i) := by rw [show (3 : Int32) = nI 3 from rfl, nI_add]
      have e4 : nI i + 4 = nI (i + 4) := by rw [show (4 : Int32) = nI 4 from rfl, nI_add]
      refine hY 1 _ _ _ (And.intro (fun _ => ?_) (fun h => absurd (Int32.le_refl _) h))
      refine hY 2 _ _ _ ?_
      show vp_in (3 + nI i) 40 ∧ ((x < 192 → Y 3 [some (.ref 19), some (.int x), some (.int (nI i)), some (.int (xr (x ^^^ nI i) (fun k => μ 30 (3 + k)) i)), some (.int (nI i))] [] (rz_up (rz_up (rz_uf μ 30 (fa (μ 30) x i (fun k => μ 30 (3 + k)))) 30 (3 + nI i).toNatClampNeg (xr (x ^^^ nI i) (fun k => μ 30 (3 + k)) i)) 19 34 (nI i + 4))) ∧ (¬ x < 192 → P none (rz_up (rz_up (rz_uf μ 30 (fa (μ 30) x i (fun k => μ 30 (3 + k)))) 30 (3 + nI i).toNatClampNeg (xr (x ^^^ nI i) (fun k => μ 30 (3 + k)) i)) 19 34 (nI i + 4))))
      have es : rz_up (rz_up (rz_uf μ 30 (fa (μ 30) x i (fun k => μ 30 (3 + k)))) 30 (3 + nI i).toNatClampNeg (xr (x ^^^ nI i) (fun k => μ 30 (3 + k)) i)) 19 34 (nI i + 4) = g_say0 x i μ := by
        rw [e3, e4, nI_clamp (by omega)]
        unfold g_say0
        congr 1
        funext k
        by_cases hk : k = 30
        · subst hk
          unfold rz_up
          rw [rz_uf_eq, rz_uf_eq, rz_uf_eq]
          rfl
        · rw [rz_up_k hk, rz_uf_ne hk, rz_uf_ne hk]
      rw [es, e3]
      exact And.intro (vp_in_nI (by omega) (by omega)) (And.intro (fun h => aft _ _ _ rfl h) (fun h => rzF (P none) h hC))
    | succ d ih =>
      intro i hi
      have e3 : (3 : Int32) + nI i = nI (3 + i) := by rw [show (3 : Int32) = nI 3 from rfl, nI_add]
      refine hY 1 _ _ _ (And.intro (fun h => absurd h (nI_ge (by omega) (by omega))) (fun _ => ?_))
      show vp_in (3 + nI i) 40 ∧ Y 1 [some (.ref 19), some (.int x), some (.int (nI n)), some (.int (xr (x ^^^ nI n) (fun k => μ 30 (3 + k)) i ^^^ fa (μ 30) x n (fun k => μ 30 (3 + k)) (3 + nI i).toNatClampNeg)), some (.int (nI i + 1))] [] (rz_uf μ 30 (fa (μ 30) x n (fun k => μ 30 (3 + k))))
      rw [e3, nI_clamp (by omega)]
      have ef : fa (μ 30) x n (fun k => μ 30 (3 + k)) (3 + i) = μ 30 (3 + i) := by
        unfold fa
        rw [if_neg (by omega), if_neg (by omega), if_neg (by omega), if_pos (by omega)]
        congr 1; omega
      rw [ef]
      have := ih (i + 1) (by omega)
      rw [nI_succ] at this
      exact And.intro (vp_in_nI (by omega) (by omega)) this
  refine hY 0 _ _ _ (And.intro (vi_c (by decide)) (And.intro (vi_c (by decide)) (And.intro (vi_c (by decide)) ?_)))
  have h0 := sum n 0 (by omega)
  rw [← fa_self (μ 30) x n μ rfl] at h0
  exact h0
theorem m_Mo_say (E : rz_E) : rz_MV SH CL E y_Mo_say 5 (Cond.code y_Mo_say c_Mo_say 5 none :: rz_tbl) ({ frames := 0, cells := 0, slots := 0, locals := 0 }) C_Mo_say := rz_metV (by decide) rfl (fun X _ G => sd_Mo_say X G) bd_Mo_say
theorem cd_Mo_say : rz_Cd rz_tbl y_Mo_say c_Mo_say 5 none (Cond.code y_Mo_say c_Mo_say 5 none :: rz_tbl) 2 ({ frames := 0, cells := 0, slots := 0, locals := 0 }) := ⟨rz_good wd_783, ⟨_, rfl⟩, wd_47, by decide +kernel, rfl, rfl⟩
def g_R (e : Int32) (μ : rz_M) : rz_M := g_say (128 + 16 * μ 19 22 + e) 0 μ
def C_Mo_answerR : rz_C := fun As μ P => ∃ e : Int32, As = [.ref 19, .int e] ∧ P none (g_R e μ)
def bk_Mo_answerR : Nat → List rz_T := fun b => match b with
  | 0 => [tz_aload 0, tz_sipush 128, tz_bipush 16, tz_aload 0, tz_get SH 7 22, tz_imul, tz_iadd, tz_iload 1, tz_iadd, tz_iconst 0, tz_cv SH 2 7 5 C_Mo_say, tz_vret]
  | _ => []
def bp_Mo_answerR : Nat → Nat := fun b => match b with
  | 0 => 0
  | _ => 0
set_option maxRecDepth 100000 in
set_option maxHeartbeats 4000000 in
theorem sd_Mo_answerR (X : rz_X) (G : rz_Cx CL X c_Mo_answerR 2 rz_tbl R_Mo ({ frames := 1, cells := 0, slots := 0, locals := 24 })) : ∀ b, rz_SB SH CL X bp_Mo_answerR (rz_RV SH CL X c_Mo_answerR) (bk_Mo_answerR b) (bp_Mo_answerR b) := fun b => match b with
  | 0 => (rz_cons (rz_aload_n G d_Mo_answerR_0 rfl) (rz_cons (rz_sipush G d_Mo_answerR_1 (by decide)) (rz_cons (rz_bipush G d_Mo_answerR_4 (by decide)) (rz_cons (rz_aload_n G d_Mo_answerR_6 rfl) (rz_cons (rz_get G rfl in_Mo (by decide) wd_641 d_Mo_answerR_7) (rz_cons (rz_imul G d_Mo_answerR_10) (rz_cons (rz_iadd G d_Mo_answerR_11) (rz_cons (rz_iload_n G d_Mo_answerR_12 rfl) (rz_cons (rz_iadd G d_Mo_answerR_13) (rz_cons (rz_iconst G d_Mo_answerR_14 (by decide)) (rz_cons (rz_cvv G (m_Mo_say X.1) cd_Mo_say wd_780 wd_782 wd_25 rfl rfl (by decide) d_Mo_answerR_15) (rz_cons (rz_vret (npc := 0) d_Mo_answerR_18) rz_nil))))))))))))
  | _ + 1 => rz_nil
set_option maxRecDepth 100000 in
set_option maxHeartbeats 4000000 in
theorem bd_Mo_answerR : ∀ (Y : Nat → rz_K) (P : rz_P), (∀ b ls st μ, rz_ex P Y (bk_Mo_answerR b) ls st μ → Y b ls st μ) → ∀ As μ, C_Mo_answerR As μ P → Y 0 (rz_pad 2 (rz_ent As)) [] μ := by
  intro Y P hY As μ hC
  obtain ⟨e, rfl, hC⟩ := hC
  exact hY 0 _ _ _ ⟨_, 0, rfl, by omega, hC⟩
theorem m_Mo_answerR (E : rz_E) : rz_MV SH CL E y_Mo_answerR 2 (Cond.code y_Mo_answerR c_Mo_answerR 2 none :: rz_tbl) ({ frames := 1, cells := 0, slots := 0, locals := 24 }) C_Mo_answerR := rz_metV (by decide) rfl (fun X _ G => sd_Mo_answerR X G) bd_Mo_answerR
theorem cd_Mo_answerR : rz_Cd rz_tbl y_Mo_answerR c_Mo_answerR 2 none (Cond.code y_Mo_answerR c_Mo_answerR 2 none :: rz_tbl) 1 ({ frames := 1, cells := 0, slots := 0, locals := 24 }) := ⟨rz_good wd_779, ⟨_, rfl⟩, wd_47, by decide +kernel, rfl, rfl⟩
def g_nx0 (s n : Nat) (μ : rz_M) : rz_M := rz_up (rz_uf μ 30 (va_cpy (μ 29) (μ 30) s 3 n)) 19 33 (nI (s + n))
def g_nx1 (a s n : Nat) (μ : rz_M) : rz_M := g_say (64 * μ 19 23 + (if nI a ≤ nI (s + n) then 0 else 32)) n (g_nx0 s n μ)
def g_nx (a s n : Nat) (μ : rz_M) : rz_M := rz_up (g_nx1 a s n μ) 19 23 (1 - g_nx1 a s n μ 19 23)
def C_Mo_next : rz_C := fun As μ P => ∃ a s z : Nat, As = [.ref 19] ∧ μ 19 32 = nI a ∧ μ 19 33 = nI s ∧ μ 19 24 = nI z ∧ s ≤ a ∧ a ≤ 26 ∧ z ≤ 32 ∧ P none (g_nx a s (min z (a - s)) μ)
def bk_Mo_next : Nat → List rz_T := fun b => match b with
  | 0 => [tz_aload 0, tz_get SH 7 32, tz_aload 0, tz_get SH 7 33, tz_isub, tz_istore 1, tz_iload 1, tz_aload 0, tz_get SH 7 24, tz_icmp_le 1, tz_aload 0, tz_get SH 7 24, tz_istore 1, tz_fall 1]
  | 1 => [tz_iconst 0, tz_istore 2, tz_fall 2]
  | 2 => [tz_iload 2, tz_iload 1, tz_icmp_ge 3, tz_aload 0, tz_get SH 7 28, tz_iconst 3, tz_iload 2, tz_iadd, tz_aload 0, tz_get SH 7 27, tz_aload 0, tz_get SH 7 33, tz_iload 2, tz_iadd, tz_iald SH, tz_iast SH, tz_iinc 2 1, tz_goto 2]
  | 3 => [tz_aload 0, tz_dup, tz_get SH 7 33, tz_iload 1, tz_iadd, tz_put SH 7 33, tz_aload 0, tz_bipush 64, tz_aload 0, tz_get SH 7 23, tz_imul, tz_aload 0, tz_get SH 7 33, tz_aload 0, tz_get SH 7 32, tz_icmp_ge 4, tz_bipush 32, tz_goto 5]
  | 4 => [tz_iconst 0, tz_fall 5]
  | 5 => [tz_iadd, tz_iload 1, tz_cv SH 2 7 5 C_Mo_say, tz_aload 0, tz_iconst 1, tz_aload 0, tz_get SH 7 23, tz_isub, tz_put SH 7 23, tz_vret]
  | _ => []
def bp_Mo_next : Nat → Nat := fun b => match b with
  | 0 => 0
  | 1 => 23
  | 2 => 25
  | 3 => 55
  | 4 => 89
  | 5 => 90
  | _ => 0
set_option maxRecDepth 100000 in
set_option maxHeartbeats 4000000 in
theorem sd_Mo_next (X : rz_X) (G : rz_Cx CL X c_Mo_next 3 rz_tbl R_Mo ({ frames := 1, cells := 0, slots := 0, locals := 24 })) : ∀ b, rz_SB SH CL X bp_Mo_next (rz_RV SH CL X c_Mo_next) (bk_Mo_next b) (bp_Mo_next b) := fun b => match b with
  | 0 => (rz_cons (rz_aload_n G d_Mo_next_0 rfl) (rz_cons (rz_get G rfl in_Mo (by decide) wd_651 d_Mo_next_1) (rz_cons (rz_aload_n G d_Mo_next_4 rfl) (rz_cons (rz_get G rfl in_Mo (by decide) wd_652 d_Mo_next_5) (rz_cons (rz_isub G d_Mo_next_8) (rz_cons (rz_istore_n G d_Mo_next_9 rfl (by decide)) (rz_cons (rz_iload_n G d_Mo_next_10 rfl) (rz_cons (rz_aload_n G d_Mo_next_11 rfl) (rz_cons (rz_get G rfl in_Mo (by decide) wd_643 d_Mo_next_12) (rz_cons (rz_icmp_le G d_Mo_next_15 (by decide)) (rz_cons (rz_aload_n G d_Mo_next_18 rfl) (rz_cons (rz_get G rfl in_Mo (by decide) wd_643 d_Mo_next_19) (rz_cons (rz_istore_n G d_Mo_next_22 rfl (by decide)) (rz_fall rfl))))))))))))))
  | 1 => (rz_cons (rz_iconst G d_Mo_next_23 (by decide)) (rz_cons (rz_istore_n G d_Mo_next_24 rfl (by decide)) (rz_fall rfl)))
  | 2 => (rz_cons (rz_iload_n G d_Mo_next_25 rfl) (rz_cons (rz_iload_n G d_Mo_next_26 rfl) (rz_cons (rz_icmp_ge G d_Mo_next_27 (by decide)) (rz_cons (rz_aload_n G d_Mo_next_30 rfl) (rz_cons (rz_get G rfl in_Mo (by decide) wd_647 d_Mo_next_31) (rz_cons (rz_iconst G d_Mo_next_34 (by decide)) (rz_cons (rz_iload_n G d_Mo_next_35 rfl) (rz_cons (rz_iadd G d_Mo_next_36) (rz_cons (rz_aload_n G d_Mo_next_37 rfl) (rz_cons (rz_get G rfl in_Mo (by decide) wd_646 d_Mo_next_38) (rz_cons (rz_aload_n G d_Mo_next_41 rfl) (rz_cons (rz_get G rfl in_Mo (by decide) wd_652 d_Mo_next_42) (rz_cons (rz_iload_n G d_Mo_next_45 rfl) (rz_cons (rz_iadd G d_Mo_next_46) (rz_cons (rz_iald G d_Mo_next_47) (rz_cons (rz_iast G d_Mo_next_48) (rz_cons (rz_iinc G d_Mo_next_49 (by decide) (by decide)) (rz_cons (rz_goto (npc := 0) G d_Mo_next_52 (by decide)) rz_nil))))))))))))))))))
  | 3 => (rz_cons (rz_aload_n G d_Mo_next_55 rfl) (rz_cons (rz_dup G d_Mo_next_56) (rz_cons (rz_get G rfl in_Mo (by decide) wd_652 d_Mo_next_57) (rz_cons (rz_iload_n G d_Mo_next_60 rfl) (rz_cons (rz_iadd G d_Mo_next_61) (rz_cons (rz_put G rfl in_Mo ty_Mo tyok_Mo nm_Mo (by decide) rfl (by decide +kernel) wd_652 d_Mo_next_62) (rz_cons (rz_aload_n G d_Mo_next_65 rfl) (rz_cons (rz_bipush G d_Mo_next_66 (by decide)) (rz_cons (rz_aload_n G d_Mo_next_68 rfl) (rz_cons (rz_get G rfl in_Mo (by decide) wd_642 d_Mo_next_69) (rz_cons (rz_imul G d_Mo_next_72) (rz_cons (rz_aload_n G d_Mo_next_73 rfl) (rz_cons (rz_get G rfl in_Mo (by decide) wd_652 d_Mo_next_74) (rz_cons (rz_aload_n G d_Mo_next_77 rfl) (rz_cons (rz_get G rfl in_Mo (by decide) wd_651 d_Mo_next_78) (rz_cons (rz_icmp_ge G d_Mo_next_81 (by decide)) (rz_cons (rz_bipush G d_Mo_next_84 (by decide)) (rz_cons (rz_goto (npc := 0) G d_Mo_next_86 (by decide)) rz_nil))))))))))))))))))
  | 4 => (rz_cons (rz_iconst G d_Mo_next_89 (by decide)) (rz_fall rfl))
  | 5 => (rz_cons (rz_iadd G d_Mo_next_90) (rz_cons (rz_iload_n G d_Mo_next_91 rfl) (rz_cons (rz_cvv G (m_Mo_say X.1) cd_Mo_say wd_780 wd_782 wd_25 rfl rfl (by decide) d_Mo_next_92) (rz_cons (rz_aload_n G d_Mo_next_95 rfl) (rz_cons (rz_iconst G d_Mo_next_96 (by decide)) (rz_cons (rz_aload_n G d_Mo_next_97 rfl) (rz_cons (rz_get G rfl in_Mo (by decide) wd_642 d_Mo_next_98) (rz_cons (rz_isub G d_Mo_next_101) (rz_cons (rz_put G rfl in_Mo ty_Mo tyok_Mo nm_Mo (by decide) rfl (by decide +kernel) wd_642 d_Mo_next_102) (rz_cons (rz_vret (npc := 0) d_Mo_next_105) rz_nil))))))))))
  | _ + 6 => rz_nil
set_option maxRecDepth 100000 in
set_option maxHeartbeats 4000000 in
theorem bd_Mo_next : ∀ (Y : Nat → rz_K) (P : rz_P), (∀ b ls st μ, rz_ex P Y (bk_Mo_next b) ls st μ → Y b ls st μ) → ∀ As μ, C_Mo_next As μ P → Y 0 (rz_pad 3 (rz_ent As)) [] μ := by
  intro Y P hY As μ hC
  obtain ⟨a, s, z, rfl, ha, hs, hz, hsa, h26, h32, hC⟩ := hC
  have hl : μ 19 32 - μ 19 33 = nI (a - s) := by rw [ha, hs]; exact pk_sub hsa
  obtain ⟨n, hn⟩ : ∃ n, n = min z (a - s) := ⟨_, rfl⟩
  rw [← hn] at hC
  have loop : ∀ (d i : Nat), i + d = n → Y 2 [some (.ref 19), some (.int (nI n)), some (.int (nI i))] [] (rz_uf μ 30 (va_cpy (μ 29) (μ 30) s 3 i)) := by
    intro d
    induction d with
    | zero =>
      intro i hi
      have : i = n := by omega
      subst this
      refine hY 2 _ _ _ (And.intro (fun _ => ?_) (fun h => absurd (Int32.le_refl _) h))
      have e33 : μ 19 33 + nI i = nI (s + i) := by rw [hs, nI_add]
      refine hY 3 _ _ _ ?_
      show (μ 19 32 ≤ μ 19 33 + nI i → Y 4 [some (.ref 19), some (.int (nI i)), some (.int (nI i))] [.int (64 * μ 19 23), .ref 19] (rz_up (rz_uf μ 30 (va_cpy (μ 29) (μ 30) s 3 i)) 19 33 (μ 19 33 + nI i))) ∧ (¬ μ 19 32 ≤ μ 19 33 + nI i → Y 5 [some (.ref 19), some (.int (nI i)), some (.int (nI i))] [.int 32, .int (64 * μ 19 23), .ref 19] (rz_up (rz_uf μ 30 (va_cpy (μ 29) (μ 30) s 3 i)) 19 33 (μ 19 33 + nI i)))
      rw [e33, ha]
      have fin : ∀ q : Int32, q = (if nI a ≤ nI (s + i) then 0 else 32) → Y 5 [some (.ref 19), some (.int (nI i)), some (.int (nI i))] [.int q, .int (64 * μ 19 23), .ref 19] (rz_up (rz_uf μ 30 (va_cpy (μ 29) (μ 30) s 3 i)) 19 33 (nI (s + i))) := by
        intro q hq
        subst hq
        exact hY 5 _ _ _ ⟨_, i, rfl, by omega, hC⟩
      exact And.intro (fun h => hY 4 _ _ _ (fin 0 (if_pos h).symm)) (fun h => fin 32 (if_neg h).symm)
    | succ d ih =>
      intro i hi
      have e3 : (3 : Int32) + nI i = nI (3 + i) := by rw [show (3 : Int32) = nI 3 from rfl, nI_add]
      have e33 : μ 19 33 + nI i = nI (s + i) := by rw [hs, nI_add]
      refine hY 2 _ _ _ (And.intro (fun h => absurd h (nI_ge (by omega) (by omega))) (fun _ => ?_))
      show vp_in (μ 19 33 + nI i) 40 ∧ vp_in (3 + nI i) 40 ∧ Y 2 [some (.ref 19), some (.int (nI n)), some (.int (nI i + 1))] [] (rz_up (rz_uf μ 30 (va_cpy (μ 29) (μ 30) s 3 i)) 30 (3 + nI i).toNatClampNeg (μ 29 (μ 19 33 + nI i).toNatClampNeg))
      rw [e33, e3, nI_clamp (by omega), nI_clamp (by omega)]
      refine And.intro (vp_in_nI (by omega) (by omega)) (And.intro (vp_in_nI (by omega) (by omega)) ?_)
      have := ih (i + 1) (by omega)
      rw [nI_succ] at this
      have e : rz_up (rz_uf μ 30 (va_cpy (μ 29) (μ 30) s 3 i)) 30 (3 + i) (μ 29 (s + i)) = rz_uf μ 30 (va_cpy (μ 29) (μ 30) s 3 (i + 1)) := by
        funext k
        by_cases hk : k = 30
        · subst hk
          rw [rz_uf_eq]
          funext j
          by_cases hj : j = 3 + i
          · subst hj
            rw [rz_up_at, pk_cpy_in (by omega) (by omega)]
            congr 1; omega
          · rw [rz_up_j hj, rz_uf_eq]
            by_cases hl : 3 ≤ j ∧ j < 3 + i
            · rw [pk_cpy_in hl.1 hl.2, pk_cpy_in hl.1 (by omega)]
            · rw [pk_cpy_out (by omega), pk_cpy_out (by omega)]
        · rw [rz_up_k hk, rz_uf_ne hk, rz_uf_ne hk]
      rw [e]
      exact this
  have one : ∀ v : Int32, v = nI n → Y 1 [some (.ref 19), some (.int v), none] [] μ := by
    intro v hv
    subst hv
    have h0 := loop n 0 (by omega)
    have e0 : rz_uf μ 30 (va_cpy (μ 29) (μ 30) s 3 0) = μ := by
      funext k
      by_cases hk : k = 30
      · subst hk
        rw [rz_uf_eq]
        funext j
        rw [pk_cpy_out (by omega)]
      · rw [rz_uf_ne hk]
    rw [e0] at h0
    exact hY 1 _ _ _ h0
  refine hY 0 _ _ _ ?_
  show (μ 19 32 - μ 19 33 ≤ μ 19 24 → Y 1 [some (.ref 19), some (.int (μ 19 32 - μ 19 33)), none] [] μ) ∧ (¬ μ 19 32 - μ 19 33 ≤ μ 19 24 → Y 1 [some (.ref 19), some (.int (μ 19 24)), none] [] μ)
  rw [hl, hz]
  refine And.intro (fun h => one _ ?_) (fun h => one _ ?_)
  · congr 1
    have := (nI_leI (by omega) (by omega)).mp h
    omega
  · congr 1
    rcases Nat.lt_or_ge z (a - s) with q | q
    · omega
    · exact absurd (nI_le q (by omega)) h
theorem m_Mo_next (E : rz_E) : rz_MV SH CL E y_Mo_next 3 (Cond.code y_Mo_next c_Mo_next 3 none :: rz_tbl) ({ frames := 1, cells := 0, slots := 0, locals := 24 }) C_Mo_next := rz_metV (by decide) rfl (fun X _ G => sd_Mo_next X G) bd_Mo_next
theorem cd_Mo_next : rz_Cd rz_tbl y_Mo_next c_Mo_next 3 none (Cond.code y_Mo_next c_Mo_next 3 none :: rz_tbl) 0 ({ frames := 1, cells := 0, slots := 0, locals := 24 }) := ⟨rz_good wd_832, ⟨_, rfl⟩, wd_47, by decide +kernel, rfl, rfl⟩
def g_nxc (μ : rz_M) : rz_M := g_nx (μ 19 32).toNatClampNeg (μ 19 33).toNatClampNeg (min (μ 19 24).toNatClampNeg ((μ 19 32).toNatClampNeg - (μ 19 33).toNatClampNeg)) μ
theorem nx_eq {μ : rz_M} {a s z : Nat} (ha : μ 19 32 = nI a) (hs : μ 19 33 = nI s) (hz : μ 19 24 = nI z) (h1 : a < 2147483648) (h2 : s < 2147483648) (h3 : z < 2147483648) : g_nx a s (min z (a - s)) μ = g_nxc μ := by
  unfold g_nxc
  rw [nc ha h1, nc hs h2, nc hz h3]
def g_ag (n : Nat) (μ : rz_M) : rz_M := rz_up (rz_uf μ 30 (va_cpy (μ 31) (μ 30) 0 0 n)) 19 34 (nI n)
def g_asks (n : Int32) (μ : rz_M) : rz_M := if n = μ 19 23 ∧ ¬ μ 19 32 ≤ μ 19 33 then g_nxc μ else if ¬ n = μ 19 23 ∧ ¬ μ 19 35 ≤ 0 ∧ ¬ μ 19 36 = 0 then g_ag (μ 19 35).toNatClampNeg μ else g_R 0 μ
def C_Mo_asks : rz_C := fun As μ P => ∃ (n : Int32) (a s z r : Nat), As = [.ref 19, .int n] ∧ μ 19 32 = nI a ∧ μ 19 33 = nI s ∧ μ 19 24 = nI z ∧ s ≤ a ∧ a ≤ 26 ∧ z ≤ 32 ∧ μ 19 35 = nI r ∧ r ≤ 36 ∧ P none (g_asks n μ)
def bk_Mo_asks : Nat → List rz_T := fun b => match b with
  | 0 => [tz_iload 1, tz_aload 0, tz_get SH 7 23, tz_icmp_ne 1, tz_aload 0, tz_get SH 7 33, tz_aload 0, tz_get SH 7 32, tz_icmp_ge 1, tz_aload 0, tz_cv SH 0 7 3 C_Mo_next, tz_goto 5]
  | 1 => [tz_iload 1, tz_aload 0, tz_get SH 7 23, tz_icmp_eq 4, tz_aload 0, tz_get SH 7 35, tz_if_le 4, tz_aload 0, tz_get SH 7 36, tz_if_eq 4, tz_iconst 0, tz_istore 2, tz_fall 2]
  | 2 => [tz_iload 2, tz_aload 0, tz_get SH 7 35, tz_icmp_ge 3, tz_aload 0, tz_get SH 7 28, tz_iload 2, tz_aload 0, tz_get SH 7 29, tz_iload 2, tz_iald SH, tz_iast SH, tz_iinc 2 1, tz_goto 2]
  | 3 => [tz_aload 0, tz_aload 0, tz_get SH 7 35, tz_put SH 7 34, tz_goto 5]
  | 4 => [tz_aload 0, tz_iconst 0, tz_cv SH 1 7 2 C_Mo_answerR, tz_fall 5]
  | 5 => [tz_vret]
  | _ => []
def bp_Mo_asks : Nat → Nat := fun b => match b with
  | 0 => 0
  | 1 => 26
  | 2 => 50
  | 3 => 76
  | 4 => 87
  | 5 => 92
  | _ => 0
set_option maxRecDepth 100000 in
set_option maxHeartbeats 4000000 in
theorem sd_Mo_asks (X : rz_X) (G : rz_Cx CL X c_Mo_asks 3 rz_tbl R_Mo ({ frames := 2, cells := 0, slots := 0, locals := 46 })) : ∀ b, rz_SB SH CL X bp_Mo_asks (rz_RV SH CL X c_Mo_asks) (bk_Mo_asks b) (bp_Mo_asks b) := fun b => match b with
  | 0 => (rz_cons (rz_iload_n G d_Mo_asks_0 rfl) (rz_cons (rz_aload_n G d_Mo_asks_1 rfl) (rz_cons (rz_get G rfl in_Mo (by decide) wd_642 d_Mo_asks_2) (rz_cons (rz_icmp_ne G d_Mo_asks_5 (by decide)) (rz_cons (rz_aload_n G d_Mo_asks_8 rfl) (rz_cons (rz_get G rfl in_Mo (by decide) wd_652 d_Mo_asks_9) (rz_cons (rz_aload_n G d_Mo_asks_12 rfl) (rz_cons (rz_get G rfl in_Mo (by decide) wd_651 d_Mo_asks_13) (rz_cons (rz_icmp_ge G d_Mo_asks_16 (by decide)) (rz_cons (rz_aload_n G d_Mo_asks_19 rfl) (rz_cons (rz_cvv G (m_Mo_next X.1) cd_Mo_next wd_829 wd_831 wd_37 rfl rfl (by decide) d_Mo_asks_20) (rz_cons (rz_goto (npc := 0) G d_Mo_asks_23 (by decide)) rz_nil))))))))))))
  | 1 => (rz_cons (rz_iload_n G d_Mo_asks_26 rfl) (rz_cons (rz_aload_n G d_Mo_asks_27 rfl) (rz_cons (rz_get G rfl in_Mo (by decide) wd_642 d_Mo_asks_28) (rz_cons (rz_icmp_eq G d_Mo_asks_31 (by decide)) (rz_cons (rz_aload_n G d_Mo_asks_34 rfl) (rz_cons (rz_get G rfl in_Mo (by decide) wd_654 d_Mo_asks_35) (rz_cons (rz_if_le G d_Mo_asks_38 (by decide)) (rz_cons (rz_aload_n G d_Mo_asks_41 rfl) (rz_cons (rz_get G rfl in_Mo (by decide) wd_655 d_Mo_asks_42) (rz_cons (rz_if_eq G d_Mo_asks_45 (by decide)) (rz_cons (rz_iconst G d_Mo_asks_48 (by decide)) (rz_cons (rz_istore_n G d_Mo_asks_49 rfl (by decide)) (rz_fall rfl)))))))))))))
  | 2 => (rz_cons (rz_iload_n G d_Mo_asks_50 rfl) (rz_cons (rz_aload_n G d_Mo_asks_51 rfl) (rz_cons (rz_get G rfl in_Mo (by decide) wd_654 d_Mo_asks_52) (rz_cons (rz_icmp_ge G d_Mo_asks_55 (by decide)) (rz_cons (rz_aload_n G d_Mo_asks_58 rfl) (rz_cons (rz_get G rfl in_Mo (by decide) wd_647 d_Mo_asks_59) (rz_cons (rz_iload_n G d_Mo_asks_62 rfl) (rz_cons (rz_aload_n G d_Mo_asks_63 rfl) (rz_cons (rz_get G rfl in_Mo (by decide) wd_648 d_Mo_asks_64) (rz_cons (rz_iload_n G d_Mo_asks_67 rfl) (rz_cons (rz_iald G d_Mo_asks_68) (rz_cons (rz_iast G d_Mo_asks_69) (rz_cons (rz_iinc G d_Mo_asks_70 (by decide) (by decide)) (rz_cons (rz_goto (npc := 0) G d_Mo_asks_73 (by decide)) rz_nil))))))))))))))
  | 3 => (rz_cons (rz_aload_n G d_Mo_asks_76 rfl) (rz_cons (rz_aload_n G d_Mo_asks_77 rfl) (rz_cons (rz_get G rfl in_Mo (by decide) wd_654 d_Mo_asks_78) (rz_cons (rz_put G rfl in_Mo ty_Mo tyok_Mo nm_Mo (by decide) rfl (by decide +kernel) wd_653 d_Mo_asks_81) (rz_cons (rz_goto (npc := 0) G d_Mo_asks_84 (by decide)) rz_nil)))))
  | 4 => (rz_cons (rz_aload_n G d_Mo_asks_87 rfl) (rz_cons (rz_iconst G d_Mo_asks_88 (by decide)) (rz_cons (rz_cvv G (m_Mo_answerR X.1) cd_Mo_answerR wd_776 wd_778 wd_24 rfl rfl (by decide) d_Mo_asks_89) (rz_fall rfl))))
  | 5 => (rz_cons (rz_vret (npc := 0) d_Mo_asks_92) rz_nil)
  | _ + 6 => rz_nil
set_option maxRecDepth 100000 in
set_option maxHeartbeats 4000000 in
theorem bd_Mo_asks : ∀ (Y : Nat → rz_K) (P : rz_P), (∀ b ls st μ, rz_ex P Y (bk_Mo_asks b) ls st μ → Y b ls st μ) → ∀ As μ, C_Mo_asks As μ P → Y 0 (rz_pad 3 (rz_ent As)) [] μ := by
  intro Y P hY As μ hC
  obtain ⟨n, a, s, z, r, rfl, ha, hs, hz, hsa, h26, h32, hr, h36, hC⟩ := hC
  have four : ∀ x : Option Value, P none (g_R 0 μ) → Y 4 [some (.ref 19), some (.int n), x] [] μ := by
    intro x hp
    exact hY 4 _ _ _ ⟨_, rfl, hY 5 _ _ _ hp⟩
  have one : ¬ (n = μ 19 23 ∧ ¬ μ 19 32 ≤ μ 19 33) → Y 1 [some (.ref 19), some (.int n), none] [] μ := by
    intro hn
    have hC := rzF (P none) hn hC
    refine hY 1 _ _ _ (And.intro (fun h => four _ (rzF (P none) (fun q => q.1 h) hC)) (fun h1 => And.intro (fun h => four _ (rzF (P none) (fun q => q.2.1 h) hC)) (fun h2 => And.intro (fun h => four _ (rzF (P none) (fun q => q.2.2 h) hC)) (fun h3 => ?_))))
    have hC := rzT (P none) ⟨h1, h2, h3⟩ hC
    rw [nc hr (by omega)] at hC
    unfold g_ag at hC
    have loop : ∀ (d i : Nat) (τ : rz_M) (g : Nat → Int32), i + d = r → τ 19 35 = nI r → P none (rz_up (rz_uf τ 30 (va_cpy (τ 31) g 0 0 r)) 19 34 (nI r)) → τ 30 = va_cpy (τ 31) g 0 0 i → Y 2 [some (.ref 19), some (.int n), some (.int (nI i))] [] τ := by
      intro d
      induction d with
      | zero =>
        intro i τ g hi h35 hp hg
        have : i = r := by omega
        subst this
        refine hY 2 _ _ _ (And.intro (fun _ => hY 3 _ _ _ (hY 5 _ _ _ ?_)) (fun h => absurd ?_ h))
        · have e : rz_uf τ 30 (va_cpy (τ 31) g 0 0 i) = τ := by
            funext k
            by_cases hk : k = 30
            · subst hk; rw [rz_uf_eq, hg]
            · rw [rz_uf_ne hk]
          rw [e, ← h35] at hp
          exact hp
        · show τ 19 35 ≤ nI i
          rw [h35]; exact Int32.le_refl _
      | succ d ih =>
        intro i τ g hi h35 hp hg
        have c1 : (nI i).toNatClampNeg = i := nI_clamp (by omega)
        refine hY 2 _ _ _ (And.intro (fun (h : τ 19 35 ≤ nI i) => absurd h ?_) (fun _ => And.intro (vp_in_nI (by omega) (by omega)) (And.intro (vp_in_nI (by omega) (by omega)) ?_)))
        · rw [h35]; exact nI_ge (by omega) (by omega)
        · rw [c1]
          have := ih (i + 1) (rz_up τ 30 i (τ 31 i)) g (by omega) h35 ?_ ?_
          · rw [nI_succ] at this
            exact this
          · have e : rz_uf (rz_up τ 30 i (τ 31 i)) 30 (va_cpy (rz_up τ 30 i (τ 31 i) 31) g 0 0 r) = rz_uf τ 30 (va_cpy (τ 31) g 0 0 r) := by
              funext k
              by_cases hk : k = 30
              · subst hk; rw [rz_uf_eq, rz_uf_eq, rz_up_k (by decide)]
              · rw [rz_uf_ne hk, rz_uf_ne hk, rz_up_k hk]
            rw [e]; exact hp
          · rw [rz_up_k (k' := 31) (by decide)]
            funext j
            by_cases hj : j = i
            · subst hj
              rw [rz_up_at, pk_cpy_in (by omega) (by omega)]
              simp
            · rw [rz_up_j hj, hg]
              by_cases hl : j < i
              · rw [pk_cpy_in (by omega) (by omega), pk_cpy_in (by omega) (by omega)]
              · rw [pk_cpy_out (by omega), pk_cpy_out (by omega)]
    refine loop r 0 μ (μ 30) (by omega) hr hC ?_
    funext j
    rw [pk_cpy_out (by omega)]
  refine hY 0 _ _ _ (And.intro (fun h => one (fun q => h q.1)) (fun h => And.intro (fun h2 => one (fun q => q.2 h2)) (fun h2 => ?_)))
  have hC := rzT (P none) ⟨h, h2⟩ hC
  refine ⟨a, s, z, rfl, ha, hs, hz, hsa, h26, h32, ?_⟩
  rw [nx_eq ha hs hz (by omega) (by omega) (by omega)]
  exact hY 5 _ _ _ hC
theorem m_Mo_asks (E : rz_E) : rz_MV SH CL E y_Mo_asks 3 (Cond.code y_Mo_asks c_Mo_asks 3 none :: rz_tbl) ({ frames := 2, cells := 0, slots := 0, locals := 46 }) C_Mo_asks := rz_metV (by decide) rfl (fun X _ G => sd_Mo_asks X G) bd_Mo_asks
theorem cd_Mo_asks : rz_Cd rz_tbl y_Mo_asks c_Mo_asks 3 none (Cond.code y_Mo_asks c_Mo_asks 3 none :: rz_tbl) 1 ({ frames := 2, cells := 0, slots := 0, locals := 46 }) := ⟨rz_good wd_836, ⟨_, rfl⟩, wd_47, by decide +kernel, rfl, rfl⟩
def g_t1 (μ : rz_M) : rz_M := rz_up (rz_up (g_w μ) 19 8 (μ 19 8 - 1)) 19 18 0
def g_t2 (μ : rz_M) : Int32 × rz_M := if ¬ μ 19 12 = 0 then (if g_sec μ = μ 19 7 then (if ¬ g_t1 μ 19 12 = 0 then (36864, rz_up (rz_up (g_w (g_t1 μ)) 19 8 3) 19 18 1) else (0, g_w (g_t1 μ))) else (25536 + (μ 19 8 - 1), g_t1 μ)) else (0, g_w μ)
def g_tell (A B d x : Int32) (μ : rz_M) : Int32 × rz_M :=
  if ¬ A = 0 then (27270, μ) else if B = 1 then
    (if ¬ d = 0 ∧ ¬ d = 4 then (26368, μ) else if x < 0 then
      (if d = 0 ∧ ¬ μ 19 18 = 0 then (36864, μ) else if ¬ μ 19 8 = 0 then (if d = 0 then (25536 + μ 19 8, μ) else g_t2 μ) else (27011, μ)) else (26368, μ)) else (27270, μ)
def C_Mo_tell : rz_C := fun As μ P => ∃ A B d x : Int32, As = [.ref 19, .int A, .int B, .int d, .int x] ∧ PQ P (g_tell A B d x μ)
def bk_Mo_tell : Nat → List rz_T := fun b => match b with
  | 0 => [tz_iload 1, tz_if_ne 1, tz_iload 2, tz_iconst 1, tz_icmp_eq 2, tz_fall 1]
  | 1 => [tz_sipush 27270, tz_iret]
  | 2 => [tz_iload 3, tz_if_eq 3, tz_iload 3, tz_iconst 4, tz_icmp_ne 4, tz_fall 3]
  | 3 => [tz_iload 4, tz_if_lt 5, tz_fall 4]
  | 4 => [tz_sipush 26368, tz_iret]
  | 5 => [tz_iload 3, tz_if_ne 6, tz_aload 0, tz_get SH 7 18, tz_if_eq 6, tz_ldc 36864, tz_iret]
  | 6 => [tz_aload 0, tz_get SH 7 8, tz_if_ne 7, tz_sipush 27011, tz_iret]
  | 7 => [tz_iload 3, tz_if_ne 8, tz_sipush 25536, tz_aload 0, tz_get SH 7 8, tz_iadd, tz_iret]
  | 8 => [tz_aload 0, tz_cv SH 0 7 1 C_Mo_writes, tz_istore 5, tz_iload 5, tz_if_ne 9, tz_iconst 0, tz_iret]
  | 9 => [tz_aload 0, tz_dup, tz_get SH 7 8, tz_iconst 1, tz_isub, tz_put SH 7 8, tz_aload 0, tz_cv SH 0 7 1 C_Mo_told, tz_istore 6, tz_aload 0, tz_iconst 0, tz_putz SH 7 18, tz_iload 6, tz_aload 0, tz_get SH 7 7, tz_icmp_eq 10, tz_sipush 25536, tz_aload 0, tz_get SH 7 8, tz_iadd, tz_iret]
  | 10 => [tz_aload 0, tz_cv SH 0 7 1 C_Mo_writes, tz_istore 5, tz_iload 5, tz_if_ne 11, tz_iconst 0, tz_iret]
  | 11 => [tz_aload 0, tz_iconst 3, tz_put SH 7 8, tz_aload 0, tz_iconst 1, tz_putz SH 7 18, tz_ldc 36864, tz_iret]
  | _ => []
def bp_Mo_tell : Nat → Nat := fun b => match b with
  | 0 => 0
  | 1 => 9
  | 2 => 13
  | 3 => 22
  | 4 => 27
  | 5 => 31
  | 6 => 45
  | 7 => 56
  | 8 => 69
  | 9 => 82
  | 10 => 121
  | 11 => 134
  | _ => 0
set_option maxRecDepth 100000 in
set_option maxHeartbeats 4000000 in
theorem sd_Mo_tell (X : rz_X) (G : rz_Cx CL X c_Mo_tell 7 rz_tbl R_Mo ({ frames := 1, cells := 0, slots := 0, locals := 20 })) : ∀ b, rz_SB SH CL X bp_Mo_tell (rz_RI SH CL X c_Mo_tell (fun v => narrow .int (.int v) = .int v)) (bk_Mo_tell b) (bp_Mo_tell b) := fun b => match b with
  | 0 => (rz_cons (rz_iload_n G d_Mo_tell_0 rfl) (rz_cons (rz_if_ne G d_Mo_tell_1 (by decide)) (rz_cons (rz_iload_n G d_Mo_tell_4 rfl) (rz_cons (rz_iconst G d_Mo_tell_5 (by decide)) (rz_cons (rz_icmp_eq G d_Mo_tell_6 (by decide)) (rz_fall rfl))))))
  | 1 => (rz_cons (rz_sipush G d_Mo_tell_9 (by decide)) (rz_cons (rz_iret (npc := 0) (fun _ => rfl) d_Mo_tell_12) rz_nil))
  | 2 => (rz_cons (rz_iload_n G d_Mo_tell_13 rfl) (rz_cons (rz_if_eq G d_Mo_tell_14 (by decide)) (rz_cons (rz_iload_n G d_Mo_tell_17 rfl) (rz_cons (rz_iconst G d_Mo_tell_18 (by decide)) (rz_cons (rz_icmp_ne G d_Mo_tell_19 (by decide)) (rz_fall rfl))))))
  | 3 => (rz_cons (rz_iload G d_Mo_tell_22) (rz_cons (rz_if_lt G d_Mo_tell_24 (by decide)) (rz_fall rfl)))
  | 4 => (rz_cons (rz_sipush G d_Mo_tell_27 (by decide)) (rz_cons (rz_iret (npc := 0) (fun _ => rfl) d_Mo_tell_30) rz_nil))
  | 5 => (rz_cons (rz_iload_n G d_Mo_tell_31 rfl) (rz_cons (rz_if_ne G d_Mo_tell_32 (by decide)) (rz_cons (rz_aload_n G d_Mo_tell_35 rfl) (rz_cons (rz_get G rfl in_Mo (by decide) wd_637 d_Mo_tell_36) (rz_cons (rz_if_eq G d_Mo_tell_39 (by decide)) (rz_cons (rz_ldc G wd_800 d_Mo_tell_42) (rz_cons (rz_iret (npc := 0) (fun _ => rfl) d_Mo_tell_44) rz_nil)))))))
  | 6 => (rz_cons (rz_aload_n G d_Mo_tell_45 rfl) (rz_cons (rz_get G rfl in_Mo (by decide) wd_627 d_Mo_tell_46) (rz_cons (rz_if_ne G d_Mo_tell_49 (by decide)) (rz_cons (rz_sipush G d_Mo_tell_52 (by decide)) (rz_cons (rz_iret (npc := 0) (fun _ => rfl) d_Mo_tell_55) rz_nil)))))
  | 7 => (rz_cons (rz_iload_n G d_Mo_tell_56 rfl) (rz_cons (rz_if_ne G d_Mo_tell_57 (by decide)) (rz_cons (rz_sipush G d_Mo_tell_60 (by decide)) (rz_cons (rz_aload_n G d_Mo_tell_63 rfl) (rz_cons (rz_get G rfl in_Mo (by decide) wd_627 d_Mo_tell_64) (rz_cons (rz_iadd G d_Mo_tell_67) (rz_cons (rz_iret (npc := 0) (fun _ => rfl) d_Mo_tell_68) rz_nil)))))))
  | 8 => (rz_cons (rz_aload_n G d_Mo_tell_69 rfl) (rz_cons (rz_cvi G (m_Mo_writes X.1) cd_Mo_writes wd_751 wd_753 wd_20 rfl rfl (by decide) d_Mo_tell_70) (rz_cons (rz_istore G d_Mo_tell_73 (by decide)) (rz_cons (rz_iload G d_Mo_tell_75) (rz_cons (rz_if_ne G d_Mo_tell_77 (by decide)) (rz_cons (rz_iconst G d_Mo_tell_80 (by decide)) (rz_cons (rz_iret (npc := 0) (fun _ => rfl) d_Mo_tell_81) rz_nil)))))))
  | 9 => (rz_cons (rz_aload_n G d_Mo_tell_82 rfl) (rz_cons (rz_dup G d_Mo_tell_83) (rz_cons (rz_get G rfl in_Mo (by decide) wd_627 d_Mo_tell_84) (rz_cons (rz_iconst G d_Mo_tell_87 (by decide)) (rz_cons (rz_isub G d_Mo_tell_88) (rz_cons (rz_put G rfl in_Mo ty_Mo tyok_Mo nm_Mo (by decide) rfl (by decide +kernel) wd_627 d_Mo_tell_89) (rz_cons (rz_aload_n G d_Mo_tell_92 rfl) (rz_cons (rz_cvi G (m_Mo_told X.1) cd_Mo_told wd_821 wd_823 wd_35 rfl rfl (by decide) d_Mo_tell_93) (rz_cons (rz_istore G d_Mo_tell_96 (by decide)) (rz_cons (rz_aload_n G d_Mo_tell_98 rfl) (rz_cons (rz_iconst G d_Mo_tell_99 (by decide)) (rz_cons (rz_putz G rfl in_Mo ty_Mo tyok_Mo nm_Mo (by decide) rfl (by decide +kernel) wd_637 d_Mo_tell_100) (rz_cons (rz_iload G d_Mo_tell_103) (rz_cons (rz_aload_n G d_Mo_tell_105 rfl) (rz_cons (rz_get G rfl in_Mo (by decide) wd_626 d_Mo_tell_106) (rz_cons (rz_icmp_eq G d_Mo_tell_109 (by decide)) (rz_cons (rz_sipush G d_Mo_tell_112 (by decide)) (rz_cons (rz_aload_n G d_Mo_tell_115 rfl) (rz_cons (rz_get G rfl in_Mo (by decide) wd_627 d_Mo_tell_116) (rz_cons (rz_iadd G d_Mo_tell_119) (rz_cons (rz_iret (npc := 0) (fun _ => rfl) d_Mo_tell_120) rz_nil)))))))))))))))))))))
  | 10 => (rz_cons (rz_aload_n G d_Mo_tell_121 rfl) (rz_cons (rz_cvi G (m_Mo_writes X.1) cd_Mo_writes wd_751 wd_753 wd_20 rfl rfl (by decide) d_Mo_tell_122) (rz_cons (rz_istore G d_Mo_tell_125 (by decide)) (rz_cons (rz_iload G d_Mo_tell_127) (rz_cons (rz_if_ne G d_Mo_tell_129 (by decide)) (rz_cons (rz_iconst G d_Mo_tell_132 (by decide)) (rz_cons (rz_iret (npc := 0) (fun _ => rfl) d_Mo_tell_133) rz_nil)))))))
  | 11 => (rz_cons (rz_aload_n G d_Mo_tell_134 rfl) (rz_cons (rz_iconst G d_Mo_tell_135 (by decide)) (rz_cons (rz_put G rfl in_Mo ty_Mo tyok_Mo nm_Mo (by decide) rfl (by decide +kernel) wd_627 d_Mo_tell_136) (rz_cons (rz_aload_n G d_Mo_tell_139 rfl) (rz_cons (rz_iconst G d_Mo_tell_140 (by decide)) (rz_cons (rz_putz G rfl in_Mo ty_Mo tyok_Mo nm_Mo (by decide) rfl (by decide +kernel) wd_637 d_Mo_tell_141) (rz_cons (rz_ldc G wd_800 d_Mo_tell_144) (rz_cons (rz_iret (npc := 0) (fun _ => rfl) d_Mo_tell_146) rz_nil))))))))
  | _ + 12 => rz_nil
set_option maxRecDepth 100000 in
set_option maxHeartbeats 4000000 in
theorem bd_Mo_tell : ∀ (Y : Nat → rz_K) (P : rz_P), (∀ b ls st μ, rz_ex P Y (bk_Mo_tell b) ls st μ → Y b ls st μ) → ∀ As μ, C_Mo_tell As μ P → Y 0 (rz_pad 7 (rz_ent As)) [] μ := by
  intro Y P hY As μ hC
  obtain ⟨A, B, d, x, rfl, hC⟩ := hC
  refine hY 0 _ _ _ (And.intro (fun h => hY 1 _ _ _ (rzT (PQ P) h hC)) (fun h => ?_))
  have hC := rzN (PQ P) h hC
  refine And.intro (fun h => ?_) (fun h => hY 1 _ _ _ (rzF (PQ P) h hC))
  have hC := rzT (PQ P) h hC
  have three : ¬ (¬ d = 0 ∧ ¬ d = 4) → Y 3 [some (.ref 19), some (.int A), some (.int B), some (.int d), some (.int x), none, none] [] μ := by
    intro hn
    have hC := rzF (PQ P) hn hC
    refine hY 3 _ _ _ (And.intro (fun h => ?_) (fun h => hY 4 _ _ _ (rzF (PQ P) h hC)))
    have hC := rzT (PQ P) h hC
    have six : ¬ (d = 0 ∧ ¬ μ 19 18 = 0) → Y 6 [some (.ref 19), some (.int A), some (.int B), some (.int d), some (.int x), none, none] [] μ := by
      intro hn
      have hC := rzF (PQ P) hn hC
      refine hY 6 _ _ _ (And.intro (fun h => ?_) (fun h => rzN (PQ P) h hC))
      have hC := rzT (PQ P) h hC
      refine hY 7 _ _ _ (And.intro (fun h => ?_) (fun h => rzT (PQ P) h hC))
      have hC := rzF (PQ P) h hC
      have e8 : g_w μ 19 8 = μ 19 8 := g_w_19 (by decide) (by decide) (by decide) (by decide) (by decide)
      have e7 : g_w μ 19 7 = μ 19 7 := g_w_19 (by decide) (by decide) (by decide) (by decide) (by decide)
      have e28 : g_w μ 28 = μ 28 := g_w_ne (by decide)
      refine hY 8 _ _ _ (And.intro rfl (And.intro (fun h => ?_) (fun h => rzF (PQ P) (b2_eq h) hC)))
      have hC := rzT (PQ P) (b2_ne h) hC
      have et : rz_up (rz_up (g_w μ) 19 8 (g_w μ 19 8 - 1)) 19 18 0 = g_t1 μ := by rw [e8]; rfl
      have es : g_sec (rz_up (g_w μ) 19 8 (g_w μ 19 8 - 1)) = g_sec μ := by
        unfold g_sec
        rw [rz_up_k (k' := 28) (by decide), e28]
      have et7 : g_t1 μ 19 7 = μ 19 7 := by unfold g_t1; rw [rz_up_j (by decide), rz_up_j (by decide), e7]
      have et8 : g_t1 μ 19 8 = μ 19 8 - 1 := by unfold g_t1; rw [rz_up_j (by decide), rz_up_at]
      refine hY 9 _ _ _ (And.intro rfl (And.intro (Or.inl rfl) ?_))
      show (g_sec (rz_up (g_w μ) 19 8 (g_w μ 19 8 - 1)) = rz_up (rz_up (g_w μ) 19 8 (g_w μ 19 8 - 1)) 19 18 0 19 7 → Y 10 [some (.ref 19), some (.int A), some (.int B), some (.int d), some (.int x), some (.int (b2 (¬ μ 19 12 = 0))), some (.int (g_sec (rz_up (g_w μ) 19 8 (g_w μ 19 8 - 1))))] [] (rz_up (rz_up (g_w μ) 19 8 (g_w μ 19 8 - 1)) 19 18 0)) ∧ (¬ g_sec (rz_up (g_w μ) 19 8 (g_w μ 19 8 - 1)) = rz_up (rz_up (g_w μ) 19 8 (g_w μ 19 8 - 1)) 19 18 0 19 7 → P (some (.int (25536 + rz_up (rz_up (g_w μ) 19 8 (g_w μ 19 8 - 1)) 19 18 0 19 8))) (rz_up (rz_up (g_w μ) 19 8 (g_w μ 19 8 - 1)) 19 18 0))
      rw [et, es, et7, et8]
      refine And.intro (fun h2 => ?_) (fun h2 => rzF (PQ P) h2 hC)
      have hC := rzT (PQ P) h2 hC
      refine hY 10 _ _ _ (And.intro rfl (And.intro (fun h3 => ?_) (fun h3 => rzF (PQ P) (b2_eq h3) hC)))
      exact hY 11 _ _ _ (And.intro (Or.inr rfl) (rzT (PQ P) (b2_ne h3) hC))
    exact hY 5 _ _ _ (And.intro (fun h => six (fun q => h q.1)) (fun h => And.intro (fun h2 => six (fun q => q.2 h2)) (fun h2 => rzT (PQ P) ⟨h, h2⟩ hC)))
  exact hY 2 _ _ _ (And.intro (fun h => three (fun q => q.1 h)) (fun h => And.intro (fun h2 => hY 4 _ _ _ (rzT (PQ P) ⟨h, h2⟩ hC)) (fun h2 => three (fun q => q.2 h2))))
theorem m_Mo_tell (E : rz_E) : rz_MI SH CL E y_Mo_tell 7 (Cond.code y_Mo_tell c_Mo_tell 7 (some .int) :: rz_tbl) ({ frames := 1, cells := 0, slots := 0, locals := 20 }) C_Mo_tell := rz_metI (by decide) rfl (fun X _ G => sd_Mo_tell X G) bd_Mo_tell
theorem cd_Mo_tell : rz_Cd rz_tbl y_Mo_tell c_Mo_tell 7 (some .int) (Cond.code y_Mo_tell c_Mo_tell 7 (some .int) :: rz_tbl) 4 ({ frames := 1, cells := 0, slots := 0, locals := 20 }) := ⟨rz_good wd_820, ⟨_, rfl⟩, wd_47, by decide +kernel, rfl, rfl⟩
def g_renew (A B d x : Int32) (μ : rz_M) : Int32 × rz_M :=
  if ¬ A = 0 then (27270, μ) else if B = 0 then
    (if ¬ d = 4 then (26368, μ) else if x < 0 then
      (if ¬ μ 19 18 = 0 then (if ¬ μ 19 12 = 0 then (36864, rz_up (g_w μ) 19 7 (g_sec μ)) else (36864, g_w μ)) else (27010, μ)) else (26368, μ)) else (27270, μ)
def C_Mo_renew : rz_C := fun As μ P => ∃ A B d x : Int32, As = [.ref 19, .int A, .int B, .int d, .int x] ∧ PQ P (g_renew A B d x μ)
def bk_Mo_renew : Nat → List rz_T := fun b => match b with
  | 0 => [tz_iload 1, tz_if_ne 1, tz_iload 2, tz_if_eq 2, tz_fall 1]
  | 1 => [tz_sipush 27270, tz_iret]
  | 2 => [tz_iload 3, tz_iconst 4, tz_icmp_ne 3, tz_iload 4, tz_if_lt 4, tz_fall 3]
  | 3 => [tz_sipush 26368, tz_iret]
  | 4 => [tz_aload 0, tz_get SH 7 18, tz_if_ne 5, tz_sipush 27010, tz_iret]
  | 5 => [tz_aload 0, tz_cv SH 0 7 1 C_Mo_writes, tz_istore 5, tz_iload 5, tz_if_eq 6, tz_aload 0, tz_aload 0, tz_cv SH 0 7 1 C_Mo_told, tz_put SH 7 7, tz_fall 6]
  | 6 => [tz_ldc 36864, tz_iret]
  | _ => []
def bp_Mo_renew : Nat → Nat := fun b => match b with
  | 0 => 0
  | 1 => 8
  | 2 => 12
  | 3 => 22
  | 4 => 26
  | 5 => 37
  | 6 => 56
  | _ => 0
set_option maxRecDepth 100000 in
set_option maxHeartbeats 4000000 in
theorem sd_Mo_renew (X : rz_X) (G : rz_Cx CL X c_Mo_renew 6 rz_tbl R_Mo ({ frames := 1, cells := 0, slots := 0, locals := 20 })) : ∀ b, rz_SB SH CL X bp_Mo_renew (rz_RI SH CL X c_Mo_renew (fun v => narrow .int (.int v) = .int v)) (bk_Mo_renew b) (bp_Mo_renew b) := fun b => match b with
  | 0 => (rz_cons (rz_iload_n G d_Mo_renew_0 rfl) (rz_cons (rz_if_ne G d_Mo_renew_1 (by decide)) (rz_cons (rz_iload_n G d_Mo_renew_4 rfl) (rz_cons (rz_if_eq G d_Mo_renew_5 (by decide)) (rz_fall rfl)))))
  | 1 => (rz_cons (rz_sipush G d_Mo_renew_8 (by decide)) (rz_cons (rz_iret (npc := 0) (fun _ => rfl) d_Mo_renew_11) rz_nil))
  | 2 => (rz_cons (rz_iload_n G d_Mo_renew_12 rfl) (rz_cons (rz_iconst G d_Mo_renew_13 (by decide)) (rz_cons (rz_icmp_ne G d_Mo_renew_14 (by decide)) (rz_cons (rz_iload G d_Mo_renew_17) (rz_cons (rz_if_lt G d_Mo_renew_19 (by decide)) (rz_fall rfl))))))
  | 3 => (rz_cons (rz_sipush G d_Mo_renew_22 (by decide)) (rz_cons (rz_iret (npc := 0) (fun _ => rfl) d_Mo_renew_25) rz_nil))
  | 4 => (rz_cons (rz_aload_n G d_Mo_renew_26 rfl) (rz_cons (rz_get G rfl in_Mo (by decide) wd_637 d_Mo_renew_27) (rz_cons (rz_if_ne G d_Mo_renew_30 (by decide)) (rz_cons (rz_sipush G d_Mo_renew_33 (by decide)) (rz_cons (rz_iret (npc := 0) (fun _ => rfl) d_Mo_renew_36) rz_nil)))))
  | 5 => (rz_cons (rz_aload_n G d_Mo_renew_37 rfl) (rz_cons (rz_cvi G (m_Mo_writes X.1) cd_Mo_writes wd_751 wd_753 wd_20 rfl rfl (by decide) d_Mo_renew_38) (rz_cons (rz_istore G d_Mo_renew_41 (by decide)) (rz_cons (rz_iload G d_Mo_renew_43) (rz_cons (rz_if_eq G d_Mo_renew_45 (by decide)) (rz_cons (rz_aload_n G d_Mo_renew_48 rfl) (rz_cons (rz_aload_n G d_Mo_renew_49 rfl) (rz_cons (rz_cvi G (m_Mo_told X.1) cd_Mo_told wd_821 wd_823 wd_35 rfl rfl (by decide) d_Mo_renew_50) (rz_cons (rz_put G rfl in_Mo ty_Mo tyok_Mo nm_Mo (by decide) rfl (by decide +kernel) wd_626 d_Mo_renew_53) (rz_fall rfl))))))))))
  | 6 => (rz_cons (rz_ldc G wd_800 d_Mo_renew_56) (rz_cons (rz_iret (npc := 0) (fun _ => rfl) d_Mo_renew_58) rz_nil))
  | _ + 7 => rz_nil
set_option maxRecDepth 100000 in
set_option maxHeartbeats 4000000 in
theorem bd_Mo_renew : ∀ (Y : Nat → rz_K) (P : rz_P), (∀ b ls st μ, rz_ex P Y (bk_Mo_renew b) ls st μ → Y b ls st μ) → ∀ As μ, C_Mo_renew As μ P → Y 0 (rz_pad 6 (rz_ent As)) [] μ := by
  intro Y P hY As μ hC
  obtain ⟨A, B, d, x, rfl, hC⟩ := hC
  refine hY 0 _ _ _ (And.intro (fun h => hY 1 _ _ _ (rzT (PQ P) h hC)) (fun h => ?_))
  have hC := rzN (PQ P) h hC
  refine And.intro (fun h => ?_) (fun h => hY 1 _ _ _ (rzF (PQ P) h hC))
  have hC := rzT (PQ P) h hC
  refine hY 2 _ _ _ (And.intro (fun h => hY 3 _ _ _ (rzT (PQ P) h hC)) (fun h => ?_))
  have hC := rzN (PQ P) h hC
  refine And.intro (fun h => ?_) (fun h => hY 3 _ _ _ (rzF (PQ P) h hC))
  have hC := rzT (PQ P) h hC
  refine hY 4 _ _ _ (And.intro (fun h => ?_) (fun h => rzN (PQ P) h hC))
  have hC := rzT (PQ P) h hC
  have e28 : g_w μ 28 = μ 28 := g_w_ne (by decide)
  refine hY 5 _ _ _ (And.intro rfl (And.intro (fun h => hY 6 _ _ _ (rzF (PQ P) (b2_eq h) hC)) (fun h => And.intro rfl (hY 6 _ _ _ ?_))))
  have hC := rzT (PQ P) (b2_ne h) hC
  have es : g_sec (g_w μ) = g_sec μ := by unfold g_sec; rw [e28]
  rw [es]
  exact hC
theorem m_Mo_renew (E : rz_E) : rz_MI SH CL E y_Mo_renew 6 (Cond.code y_Mo_renew c_Mo_renew 6 (some .int) :: rz_tbl) ({ frames := 1, cells := 0, slots := 0, locals := 20 }) C_Mo_renew := rz_metI (by decide) rfl (fun X _ G => sd_Mo_renew X G) bd_Mo_renew
theorem cd_Mo_renew : rz_Cd rz_tbl y_Mo_renew c_Mo_renew 6 (some .int) (Cond.code y_Mo_renew c_Mo_renew 6 (some .int) :: rz_tbl) 4 ({ frames := 1, cells := 0, slots := 0, locals := 20 }) := ⟨rz_good wd_828, ⟨_, rfl⟩, wd_47, by decide +kernel, rfl, rfl⟩
