def f_w (μ : rz_M) : rz_M := if ¬ μ 6 10 = 0 then rz_up (if μ 6 10 ≤ 0 then μ else rz_up μ 6 10 (μ 6 10 - 1)) 6 8 (μ 6 8 + 1) else rz_up (rz_up μ 6 10 (-1)) 6 9 (μ 6 9 + 1)
def C_Me_mayWrite : rz_C := fun As μ P => As = [.ref 6] ∧ P (some (.int (b2 (¬ μ 6 10 = 0)))) (f_w μ)
def bk_Me_mayWrite : Nat → List rz_T := fun b => match b with
  | 0 => [tz_aload 0, tz_get SH 4 10, tz_if_ne 1, tz_aload 0, tz_iconst (-1), tz_put SH 4 10, tz_aload 0, tz_dup, tz_get SH 4 9, tz_iconst 1, tz_iadd, tz_put SH 4 9, tz_iconst 0, tz_zret]
  | 1 => [tz_aload 0, tz_get SH 4 10, tz_if_le 2, tz_aload 0, tz_dup, tz_get SH 4 10, tz_iconst 1, tz_isub, tz_put SH 4 10, tz_fall 2]
  | 2 => [tz_aload 0, tz_dup, tz_get SH 4 8, tz_iconst 1, tz_iadd, tz_put SH 4 8, tz_iconst 1, tz_zret]
  | _ => []
def bp_Me_mayWrite : Nat → Nat := fun b => match b with
  | 0 => 0
  | 1 => 24
  | 2 => 41
  | _ => 0
set_option maxRecDepth 100000 in
set_option maxHeartbeats 4000000 in
theorem sd_Me_mayWrite (X : rz_X) (G : rz_Cx CL X c_Me_mayWrite 1 rz_tbl R_Me ({ frames := 0, cells := 0, slots := 0, locals := 0 })) : ∀ b, rz_SB SH CL X bp_Me_mayWrite (rz_RI SH CL X c_Me_mayWrite (fun v => narrow .boolean (.int v) = .int v)) (bk_Me_mayWrite b) (bp_Me_mayWrite b) := fun b => match b with
  | 0 => (rz_cons (rz_aload_n G d_Me_mayWrite_0 rfl) (rz_cons (rz_get G rfl in_Me (by decide) wd_166 d_Me_mayWrite_1) (rz_cons (rz_if_ne G d_Me_mayWrite_4 (by decide)) (rz_cons (rz_aload_n G d_Me_mayWrite_7 rfl) (rz_cons (rz_iconst G d_Me_mayWrite_8 (by decide)) (rz_cons (rz_put G rfl in_Me ty_Me tyok_Me nm_Me (by decide) rfl (by decide +kernel) wd_166 d_Me_mayWrite_9) (rz_cons (rz_aload_n G d_Me_mayWrite_12 rfl) (rz_cons (rz_dup G d_Me_mayWrite_13) (rz_cons (rz_get G rfl in_Me (by decide) wd_164 d_Me_mayWrite_14) (rz_cons (rz_iconst G d_Me_mayWrite_17 (by decide)) (rz_cons (rz_iadd G d_Me_mayWrite_18) (rz_cons (rz_put G rfl in_Me ty_Me tyok_Me nm_Me (by decide) rfl (by decide +kernel) wd_164 d_Me_mayWrite_19) (rz_cons (rz_iconst G d_Me_mayWrite_22 (by decide)) (rz_cons (rz_zret (npc := 0) (by rintro v (rfl | rfl) <;> rfl) d_Me_mayWrite_23) rz_nil))))))))))))))
  | 1 => (rz_cons (rz_aload_n G d_Me_mayWrite_24 rfl) (rz_cons (rz_get G rfl in_Me (by decide) wd_166 d_Me_mayWrite_25) (rz_cons (rz_if_le G d_Me_mayWrite_28 (by decide)) (rz_cons (rz_aload_n G d_Me_mayWrite_31 rfl) (rz_cons (rz_dup G d_Me_mayWrite_32) (rz_cons (rz_get G rfl in_Me (by decide) wd_166 d_Me_mayWrite_33) (rz_cons (rz_iconst G d_Me_mayWrite_36 (by decide)) (rz_cons (rz_isub G d_Me_mayWrite_37) (rz_cons (rz_put G rfl in_Me ty_Me tyok_Me nm_Me (by decide) rfl (by decide +kernel) wd_166 d_Me_mayWrite_38) (rz_fall rfl))))))))))
  | 2 => (rz_cons (rz_aload_n G d_Me_mayWrite_41 rfl) (rz_cons (rz_dup G d_Me_mayWrite_42) (rz_cons (rz_get G rfl in_Me (by decide) wd_162 d_Me_mayWrite_43) (rz_cons (rz_iconst G d_Me_mayWrite_46 (by decide)) (rz_cons (rz_iadd G d_Me_mayWrite_47) (rz_cons (rz_put G rfl in_Me ty_Me tyok_Me nm_Me (by decide) rfl (by decide +kernel) wd_162 d_Me_mayWrite_48) (rz_cons (rz_iconst G d_Me_mayWrite_51 (by decide)) (rz_cons (rz_zret (npc := 0) (by rintro v (rfl | rfl) <;> rfl) d_Me_mayWrite_52) rz_nil))))))))
  | _ + 3 => rz_nil
set_option maxRecDepth 100000 in
set_option maxHeartbeats 4000000 in
theorem bd_Me_mayWrite : ∀ (Y : Nat → rz_K) (P : rz_P), (∀ b ls st μ, rz_ex P Y (bk_Me_mayWrite b) ls st μ → Y b ls st μ) → ∀ As μ, C_Me_mayWrite As μ P → Y 0 (rz_pad 1 (rz_ent As)) [] μ := by
  intro Y P hY As μ hC
  obtain ⟨rfl, hC⟩ := hC
  unfold f_w at hC
  refine hY 0 _ _ _ (And.intro (fun (h : ¬ μ 6 10 = 0) => ?_) (fun (h : μ 6 10 = 0) => ?_))
  · rw [if_pos h] at hC
    refine hY _ _ _ _ (And.intro (fun (h2 : μ 6 10 ≤ 0) => ?_) (fun (h2 : ¬ μ 6 10 ≤ 0) => ?_))
    · rw [if_pos h2] at hC
      exact hY _ _ _ _ (pT hC h)
    · rw [if_neg h2] at hC
      exact hY _ _ _ _ (pT hC h)
  · rw [if_neg (fun q => q h)] at hC
    exact pF hC (fun q => q h)
theorem m_Me_mayWrite (E : rz_E) : rz_MI SH CL E y_Me_mayWrite 1 (Cond.code y_Me_mayWrite c_Me_mayWrite 1 (some .boolean) :: rz_tbl) ({ frames := 0, cells := 0, slots := 0, locals := 0 }) C_Me_mayWrite := rz_metI (by decide) rfl (fun X _ G => sd_Me_mayWrite X G) bd_Me_mayWrite
theorem cd_Me_mayWrite : rz_Cd rz_tbl y_Me_mayWrite c_Me_mayWrite 1 (some .boolean) (Cond.code y_Me_mayWrite c_Me_mayWrite 1 (some .boolean) :: rz_tbl) 0 ({ frames := 0, cells := 0, slots := 0, locals := 0 }) := ⟨rz_good wd_337, ⟨_, rfl⟩, wd_43, by decide +kernel, rfl, rfl⟩
theorem f_w_ne {μ : rz_M} {k : Nat} (h : k ≠ 6) : f_w μ k = μ k := by
  unfold f_w
  split
  · split
    · exact rz_up_k h
    · rw [rz_up_k h, rz_up_k h]
  · rw [rz_up_k h, rz_up_k h]
theorem f_w_6 {μ : rz_M} {j : Nat} (h8 : j ≠ 8) (h9 : j ≠ 9) (h10 : j ≠ 10) : f_w μ 6 j = μ 6 j := by
  unfold f_w
  split
  · split
    · exact rz_up_j h8
    · rw [rz_up_j h8, rz_up_j h10]
  · rw [rz_up_j h9, rz_up_j h10]
theorem f_put_ne {f k o : Int32} {μ : rz_M} {c : Nat} (h : c ≠ 13) : f_put f k o μ c = μ c := by
  unfold f_put
  split
  · rfl
  · split
    · rfl
    · exact rz_up_k h
/-- the note's OCTETS from i on (d of them), then the note goes: what comes of it, and whether it wasn't torn -/
def f_coL : Nat → Nat → rz_M → Int32 × rz_M
  | 0, _, μ => if μ 6 10 = 0 then (0, f_w μ) else (1, rz_up (f_w μ) 6 5 0)
  | d + 1, i, μ => if μ 6 10 = 0 then (0, f_w μ) else f_coL d (i + 1) (f_put (μ 6 2) (μ 6 3 + nI i) (μ 14 i) (f_w μ))
def C_Me_carryOutNote : rz_C := fun As μ P => ∃ n : Nat, As = [.ref 6] ∧ μ 6 4 = nI n ∧ n ≤ 24 ∧ P (some (.int (f_coL n 0 μ).1)) (f_coL n 0 μ).2
def bk_Me_carryOutNote : Nat → List rz_T := fun b => match b with
  | 0 => [tz_iconst 0, tz_istore 1, tz_fall 1]
  | 1 => [tz_iload 1, tz_aload 0, tz_get SH 4 4, tz_icmp_ge 3, tz_aload 0, tz_cv SH 0 4 1 C_Me_mayWrite, tz_if_ne 2, tz_iconst 0, tz_zret]
  | 2 => [tz_aload 0, tz_get SH 4 0, tz_aload 0, tz_get SH 4 2, tz_aload 0, tz_get SH 4 3, tz_iload 1, tz_iadd, tz_aload 0, tz_get SH 4 1, tz_iload 1, tz_iald SH, tz_cv SH 3 2 5 C_Fi_put, tz_iinc 1 1, tz_goto 1]
  | 3 => [tz_aload 0, tz_cv SH 0 4 1 C_Me_mayWrite, tz_if_ne 4, tz_iconst 0, tz_zret]
  | 4 => [tz_aload 0, tz_iconst 0, tz_putz SH 4 5, tz_iconst 1, tz_zret]
  | _ => []
def bp_Me_carryOutNote : Nat → Nat := fun b => match b with
  | 0 => 0
  | 1 => 2
  | 2 => 19
  | 3 => 48
  | 4 => 57
  | _ => 0
set_option maxRecDepth 100000 in
set_option maxHeartbeats 4000000 in
theorem sd_Me_carryOutNote (X : rz_X) (G : rz_Cx CL X c_Me_carryOutNote 2 rz_tbl R_Me ({ frames := 1, cells := 0, slots := 0, locals := 24 })) : ∀ b, rz_SB SH CL X bp_Me_carryOutNote (rz_RI SH CL X c_Me_carryOutNote (fun v => narrow .boolean (.int v) = .int v)) (bk_Me_carryOutNote b) (bp_Me_carryOutNote b) := fun b => match b with
  | 0 => (rz_cons (rz_iconst G d_Me_carryOutNote_0 (by decide)) (rz_cons (rz_istore_n G d_Me_carryOutNote_1 rfl (by decide)) (rz_fall rfl)))
  | 1 => (rz_cons (rz_iload_n G d_Me_carryOutNote_2 rfl) (rz_cons (rz_aload_n G d_Me_carryOutNote_3 rfl) (rz_cons (rz_get G rfl in_Me (by decide) wd_154 d_Me_carryOutNote_4) (rz_cons (rz_icmp_ge G d_Me_carryOutNote_7 (by decide)) (rz_cons (rz_aload_n G d_Me_carryOutNote_10 rfl) (rz_cons (rz_cvi G (m_Me_mayWrite X.1) cd_Me_mayWrite wd_334 wd_335 wd_336 rfl rfl (by decide) d_Me_carryOutNote_11) (rz_cons (rz_if_ne G d_Me_carryOutNote_14 (by decide)) (rz_cons (rz_iconst G d_Me_carryOutNote_17 (by decide)) (rz_cons (rz_zret (npc := 0) (by rintro v (rfl | rfl) <;> rfl) d_Me_carryOutNote_18) rz_nil)))))))))
  | 2 => (rz_cons (rz_aload_n G d_Me_carryOutNote_19 rfl) (rz_cons (rz_get G rfl in_Me (by decide) wd_148 d_Me_carryOutNote_20) (rz_cons (rz_aload_n G d_Me_carryOutNote_23 rfl) (rz_cons (rz_get G rfl in_Me (by decide) wd_152 d_Me_carryOutNote_24) (rz_cons (rz_aload_n G d_Me_carryOutNote_27 rfl) (rz_cons (rz_get G rfl in_Me (by decide) wd_153 d_Me_carryOutNote_28) (rz_cons (rz_iload_n G d_Me_carryOutNote_31 rfl) (rz_cons (rz_iadd G d_Me_carryOutNote_32) (rz_cons (rz_aload_n G d_Me_carryOutNote_33 rfl) (rz_cons (rz_get G rfl in_Me (by decide) wd_151 d_Me_carryOutNote_34) (rz_cons (rz_iload_n G d_Me_carryOutNote_37 rfl) (rz_cons (rz_iald G d_Me_carryOutNote_38) (rz_cons (rz_cvv G (m_Fi_put X.1) cd_Fi_put wd_338 wd_339 wd_340 rfl rfl (by decide) d_Me_carryOutNote_39) (rz_cons (rz_iinc G d_Me_carryOutNote_42 (by decide) (by decide)) (rz_cons (rz_goto (npc := 0) G d_Me_carryOutNote_45 (by decide)) rz_nil)))))))))))))))
  | 3 => (rz_cons (rz_aload_n G d_Me_carryOutNote_48 rfl) (rz_cons (rz_cvi G (m_Me_mayWrite X.1) cd_Me_mayWrite wd_334 wd_335 wd_336 rfl rfl (by decide) d_Me_carryOutNote_49) (rz_cons (rz_if_ne G d_Me_carryOutNote_52 (by decide)) (rz_cons (rz_iconst G d_Me_carryOutNote_55 (by decide)) (rz_cons (rz_zret (npc := 0) (by rintro v (rfl | rfl) <;> rfl) d_Me_carryOutNote_56) rz_nil)))))
  | 4 => (rz_cons (rz_aload_n G d_Me_carryOutNote_57 rfl) (rz_cons (rz_iconst G d_Me_carryOutNote_58 (by decide)) (rz_cons (rz_putz G rfl in_Me ty_Me tyok_Me nm_Me (by decide) rfl (by decide +kernel) wd_155 d_Me_carryOutNote_59) (rz_cons (rz_iconst G d_Me_carryOutNote_62 (by decide)) (rz_cons (rz_zret (npc := 0) (by rintro v (rfl | rfl) <;> rfl) d_Me_carryOutNote_63) rz_nil)))))
  | _ + 5 => rz_nil
set_option maxRecDepth 100000 in
set_option maxHeartbeats 4000000 in
theorem bd_Me_carryOutNote : ∀ (Y : Nat → rz_K) (P : rz_P), (∀ b ls st μ, rz_ex P Y (bk_Me_carryOutNote b) ls st μ → Y b ls st μ) → ∀ As μ, C_Me_carryOutNote As μ P → Y 0 (rz_pad 2 (rz_ent As)) [] μ := by
  intro Y P hY As μ hC
  obtain ⟨n, rfl, hn, h24, hC⟩ := hC
  have loop : ∀ (d i : Nat) (ν : rz_M), i + d = n → ν 6 4 = nI n → P (some (.int (f_coL d i ν).1)) (f_coL d i ν).2 → Y 1 [some (.ref 6), some (.int (nI i))] [] ν := by
    intro d
    induction d with
    | zero =>
      intro i ν hi h4 hp
      have : i = n := by omega
      subst this
      refine hY 1 _ _ _ (And.intro (fun _ => ?_) (fun h => absurd ?_ h))
      · refine hY 3 _ _ _ (And.intro rfl (And.intro (fun h => ?_) (fun h => ?_)))
        · have h0 := b2_ne h
          rw [f_coL, if_neg h0] at hp
          exact hY 4 _ _ _ (And.intro (Or.inl rfl) (And.intro (Or.inr rfl) hp))
        · have h0 : ν 6 10 = 0 := Decidable.not_not.mp (b2_eq h)
          rw [f_coL, if_pos h0] at hp
          exact And.intro (Or.inl rfl) hp
      · show ν 6 4 ≤ nI i
        rw [h4]; exact Int32.le_refl _
    | succ d ih =>
      intro i ν hi h4 hp
      refine hY 1 _ _ _ (And.intro (fun (h : ν 6 4 ≤ nI i) => absurd h ?_) (fun _ => And.intro rfl (And.intro (fun h => ?_) (fun h => ?_))))
      · rw [h4]; exact nI_ge (by omega) (by omega)
      · have h0 := b2_ne h
        rw [f_coL, if_neg h0] at hp
        refine hY 2 _ _ _ (And.intro (vp_in_nI (by omega) (by omega)) ⟨_, _, _, rfl, ?_⟩)
        have e1 : f_w ν 6 2 = ν 6 2 := f_w_6 (by decide) (by decide) (by decide)
        have e2 : f_w ν 6 3 = ν 6 3 := f_w_6 (by decide) (by decide) (by decide)
        have e3 : f_w ν 14 = ν 14 := f_w_ne (by decide)
        have e4 : f_w ν 6 4 = ν 6 4 := f_w_6 (by decide) (by decide) (by decide)
        have := ih (i + 1) _ (by omega) (by rw [f_put_ne (by decide), e4]; exact h4) hp
        rw [nI_succ] at this
        rw [nI_clamp (by omega), e1, e2, e3]
        exact this
      · have h0 : ν 6 10 = 0 := Decidable.not_not.mp (b2_eq h)
        rw [f_coL, if_pos h0] at hp
        exact And.intro (Or.inl rfl) hp
  exact hY 0 _ _ _ (loop n 0 μ (by omega) hn hC)
theorem m_Me_carryOutNote (E : rz_E) : rz_MI SH CL E y_Me_carryOutNote 2 (Cond.code y_Me_carryOutNote c_Me_carryOutNote 2 (some .boolean) :: rz_tbl) ({ frames := 1, cells := 0, slots := 0, locals := 24 }) C_Me_carryOutNote := rz_metI (by decide) rfl (fun X _ G => sd_Me_carryOutNote X G) bd_Me_carryOutNote
theorem cd_Me_carryOutNote : rz_Cd rz_tbl y_Me_carryOutNote c_Me_carryOutNote 2 (some .boolean) (Cond.code y_Me_carryOutNote c_Me_carryOutNote 2 (some .boolean) :: rz_tbl) 0 ({ frames := 1, cells := 0, slots := 0, locals := 24 }) := ⟨rz_good wd_333, ⟨_, rfl⟩, wd_43, by decide +kernel, rfl, rfl⟩
/-- d writings: 0 as soon as one is torn -/
def f_wn : Nat → rz_M → Int32 × rz_M
  | 0, μ => (1, μ)
  | d + 1, μ => if μ 6 10 = 0 then (0, f_w μ) else f_wn d (f_w μ)
/-- the note is put down -/
def f_nt (f p : Int32) (n : Nat) (μ : rz_M) : rz_M := rz_up (rz_uf (rz_up (rz_up (rz_up μ 6 2 f) 6 3 p) 6 4 (nI n)) 14 (va_cpy (μ 16) (μ 14) 5 0 n)) 6 5 1
def f_wN (f p : Int32) (n : Nat) (μ : rz_M) : Int32 × rz_M := if (f_wn (n + 2) μ).1 = 0 then (0, (f_wn (n + 2) μ).2) else (1, f_nt f p n (f_wn (n + 2) μ).2)
theorem f_wn_01 : ∀ (d : Nat) (μ : rz_M), (f_wn d μ).1 = 0 ∨ (f_wn d μ).1 = 1
  | 0, μ => Or.inr rfl
  | d + 1, μ => by
    unfold f_wn
    split
    · exact Or.inl rfl
    · exact f_wn_01 d (f_w μ)
theorem f_wn_ne : ∀ (d : Nat) (μ : rz_M) {k : Nat}, k ≠ 6 → (f_wn d μ).2 k = μ k
  | 0, μ, k, h => rfl
  | d + 1, μ, k, h => by
    unfold f_wn
    split
    · exact f_w_ne h
    · rw [f_wn_ne d (f_w μ) h, f_w_ne h]
def C_Me_writeNote : rz_C := fun As μ P => ∃ (f p : Int32) (n : Nat), As = [.ref 6, .int f, .int p, .ref 15] ∧ μ 15 3 = nI n ∧ n ≤ 24 ∧ P (some (.int (f_wN f p n μ).1)) (f_wN f p n μ).2
def bk_Me_writeNote : Nat → List rz_T := fun b => match b with
  | 0 => [tz_aload 3, tz_get SH 1 3, tz_aload 0, tz_get SH 4 1, tz_alen SH, tz_min, tz_istore 4, tz_iconst 0, tz_istore 5, tz_fall 1]
  | 1 => [tz_iload 5, tz_iload 4, tz_iconst 2, tz_iadd, tz_icmp_ge 3, tz_aload 0, tz_cv SH 0 4 1 C_Me_mayWrite, tz_if_ne 2, tz_iconst 0, tz_zret]
  | 2 => [tz_iinc 5 1, tz_goto 1]
  | 3 => [tz_aload 0, tz_iload 1, tz_put SH 4 2, tz_aload 0, tz_iload 2, tz_put SH 4 3, tz_aload 0, tz_iload 4, tz_put SH 4 4, tz_iconst 0, tz_istore 5, tz_fall 4]
  | 4 => [tz_iload 5, tz_iload 4, tz_icmp_ge 5, tz_aload 0, tz_get SH 4 1, tz_iload 5, tz_aload 3, tz_iload 5, tz_cv SH 1 1 2 C_Co_data, tz_iast SH, tz_iinc 5 1, tz_goto 4]
  | 5 => [tz_aload 0, tz_iconst 1, tz_putz SH 4 5, tz_iconst 1, tz_zret]
  | _ => []
def bp_Me_writeNote : Nat → Nat := fun b => match b with
  | 0 => 0
  | 1 => 17
  | 2 => 35
  | 3 => 41
  | 4 => 60
  | 5 => 86
  | _ => 0
set_option maxRecDepth 100000 in
set_option maxHeartbeats 4000000 in
theorem sd_Me_writeNote (X : rz_X) (G : rz_Cx CL X c_Me_writeNote 6 rz_tbl R_Me ({ frames := 1, cells := 0, slots := 0, locals := 21 })) : ∀ b, rz_SB SH CL X bp_Me_writeNote (rz_RI SH CL X c_Me_writeNote (fun v => narrow .boolean (.int v) = .int v)) (bk_Me_writeNote b) (bp_Me_writeNote b) := fun b => match b with
  | 0 => (rz_cons (rz_aload_n G d_Me_writeNote_0 rfl) (rz_cons (rz_getN G rfl in_Co (by decide) wn_26 d_Me_writeNote_1) (rz_cons (rz_aload_n G d_Me_writeNote_4 rfl) (rz_cons (rz_get G rfl in_Me (by decide) wd_151 d_Me_writeNote_5) (rz_cons (rz_alen G d_Me_writeNote_8) (rz_cons (rz_min G wd_514 wd_491 wd_48 wd_492 (by decide) d_Me_writeNote_9) (rz_cons (rz_istore G d_Me_writeNote_12 (by decide)) (rz_cons (rz_iconst G d_Me_writeNote_14 (by decide)) (rz_cons (rz_istore G d_Me_writeNote_15 (by decide)) (rz_fall rfl))))))))))
  | 1 => (rz_cons (rz_iload G d_Me_writeNote_17) (rz_cons (rz_iload G d_Me_writeNote_19) (rz_cons (rz_iconst G d_Me_writeNote_21 (by decide)) (rz_cons (rz_iadd G d_Me_writeNote_22) (rz_cons (rz_icmp_ge G d_Me_writeNote_23 (by decide)) (rz_cons (rz_aload_n G d_Me_writeNote_26 rfl) (rz_cons (rz_cvi G (m_Me_mayWrite X.1) cd_Me_mayWrite wd_334 wd_335 wd_336 rfl rfl (by decide) d_Me_writeNote_27) (rz_cons (rz_if_ne G d_Me_writeNote_30 (by decide)) (rz_cons (rz_iconst G d_Me_writeNote_33 (by decide)) (rz_cons (rz_zret (npc := 0) (by rintro v (rfl | rfl) <;> rfl) d_Me_writeNote_34) rz_nil))))))))))
  | 2 => (rz_cons (rz_iinc G d_Me_writeNote_35 (by decide) (by decide)) (rz_cons (rz_goto (npc := 0) G d_Me_writeNote_38 (by decide)) rz_nil))
  | 3 => (rz_cons (rz_aload_n G d_Me_writeNote_41 rfl) (rz_cons (rz_iload_n G d_Me_writeNote_42 rfl) (rz_cons (rz_put G rfl in_Me ty_Me tyok_Me nm_Me (by decide) rfl (by decide +kernel) wd_152 d_Me_writeNote_43) (rz_cons (rz_aload_n G d_Me_writeNote_46 rfl) (rz_cons (rz_iload_n G d_Me_writeNote_47 rfl) (rz_cons (rz_put G rfl in_Me ty_Me tyok_Me nm_Me (by decide) rfl (by decide +kernel) wd_153 d_Me_writeNote_48) (rz_cons (rz_aload_n G d_Me_writeNote_51 rfl) (rz_cons (rz_iload G d_Me_writeNote_52) (rz_cons (rz_put G rfl in_Me ty_Me tyok_Me nm_Me (by decide) rfl (by decide +kernel) wd_154 d_Me_writeNote_54) (rz_cons (rz_iconst G d_Me_writeNote_57 (by decide)) (rz_cons (rz_istore G d_Me_writeNote_58 (by decide)) (rz_fall rfl))))))))))))
  | 4 => (rz_cons (rz_iload G d_Me_writeNote_60) (rz_cons (rz_iload G d_Me_writeNote_62) (rz_cons (rz_icmp_ge G d_Me_writeNote_64 (by decide)) (rz_cons (rz_aload_n G d_Me_writeNote_67 rfl) (rz_cons (rz_get G rfl in_Me (by decide) wd_151 d_Me_writeNote_68) (rz_cons (rz_iload G d_Me_writeNote_71) (rz_cons (rz_aload_n G d_Me_writeNote_73 rfl) (rz_cons (rz_iload G d_Me_writeNote_74) (rz_cons (rz_cvi G (m_Co_data X.1) cd_Co_data wd_515 wd_451 wd_452 rfl rfl (by decide) d_Me_writeNote_76) (rz_cons (rz_iast G d_Me_writeNote_79) (rz_cons (rz_iinc G d_Me_writeNote_80 (by decide) (by decide)) (rz_cons (rz_goto (npc := 0) G d_Me_writeNote_83 (by decide)) rz_nil))))))))))))
  | 5 => (rz_cons (rz_aload_n G d_Me_writeNote_86 rfl) (rz_cons (rz_iconst G d_Me_writeNote_87 (by decide)) (rz_cons (rz_putz G rfl in_Me ty_Me tyok_Me nm_Me (by decide) rfl (by decide +kernel) wd_155 d_Me_writeNote_88) (rz_cons (rz_iconst G d_Me_writeNote_91 (by decide)) (rz_cons (rz_zret (npc := 0) (by rintro v (rfl | rfl) <;> rfl) d_Me_writeNote_92) rz_nil)))))
  | _ + 6 => rz_nil
set_option maxRecDepth 100000 in
set_option maxHeartbeats 4000000 in
theorem bd_Me_writeNote : ∀ (Y : Nat → rz_K) (P : rz_P), (∀ b ls st μ, rz_ex P Y (bk_Me_writeNote b) ls st μ → Y b ls st μ) → ∀ As μ, C_Me_writeNote As μ P → Y 0 (rz_pad 6 (rz_ent As)) [] μ := by
  intro Y P hY As μ hC
  obtain ⟨f, p, n, rfl, hn, h24, hC⟩ := hC
  have cp : ∀ (d i : Nat) (ν : rz_M) (g : Nat → Int32), i + d = n → P (some (.int 1)) (rz_up (rz_uf ν 14 (va_cpy (ν 16) g 5 0 n)) 6 5 1) → ν 14 = va_cpy (ν 16) g 5 0 i → Y 4 [some (.ref 6), some (.int f), some (.int p), some (.ref 15), some (.int (nI n)), some (.int (nI i))] [] ν := by
    intro d
    induction d with
    | zero =>
      intro i ν g hi hp hg
      have : i = n := by omega
      subst this
      refine hY 4 _ _ _ (And.intro (fun _ => hY 5 _ _ _ (And.intro (Or.inr rfl) (And.intro (Or.inr rfl) ?_))) (fun h => absurd (Int32.le_refl _) h))
      have e : rz_uf ν 14 (va_cpy (ν 16) g 5 0 i) = ν := by
        funext k
        by_cases hk : k = 14
        · subst hk; rw [rz_uf_eq, hg]
        · rw [rz_uf_ne hk]
      rw [e] at hp
      exact hp
    | succ d ih =>
      intro i ν g hi hp hg
      have c1 : (nI i).toNatClampNeg = i := nI_clamp (by omega)
      have c2 : (5 + nI i).toNatClampNeg = 5 + i := by
        rw [show (5 : Int32) = nI 5 from rfl, nI_add]; exact nI_clamp (by omega)
      refine hY 4 _ _ _ (And.intro (fun h => absurd h (nI_ge (by omega) (by omega))) (fun _ => ⟨_, rfl, nI_pos (by omega), ?_, And.intro (vp_in_nI (by omega) (by omega)) ?_⟩))
      · exact nI_ge (a := i) (b := 32) (by omega) (by omega)
      · rw [c1, c2]
        have := ih (i + 1) (rz_up ν 14 i (ν 16 (5 + i))) g (by omega) ?_ ?_
        · rw [nI_succ] at this
          exact this
        · have e : rz_uf (rz_up ν 14 i (ν 16 (5 + i))) 14 (va_cpy (rz_up ν 14 i (ν 16 (5 + i)) 16) g 5 0 n) = rz_uf ν 14 (va_cpy (ν 16) g 5 0 n) := by
            funext k
            by_cases hk : k = 14
            · subst hk; rw [rz_uf_eq, rz_uf_eq, rz_up_k (by decide)]
            · rw [rz_uf_ne hk, rz_uf_ne hk, rz_up_k hk]
          rw [e]; exact hp
        · rw [rz_up_k (k' := 16) (by decide)]
          funext j
          by_cases hj : j = i
          · subst hj
            rw [rz_up_at, pk_cpy_in (by omega) (by omega)]
            simp
          · rw [rz_up_j hj, hg]
            by_cases hl : j < i
            · rw [pk_cpy_in (by omega) (by omega), pk_cpy_in (by omega) (by omega)]
            · rw [pk_cpy_out (by omega), pk_cpy_out (by omega)]
  have wr : ∀ (d i : Nat) (ν : rz_M), i + d = n + 2 → ((f_wn d ν).1 = 0 → P (some (.int 0)) (f_wn d ν).2) → (¬ (f_wn d ν).1 = 0 → P (some (.int 1)) (f_nt f p n (f_wn d ν).2)) → Y 1 [some (.ref 6), some (.int f), some (.int p), some (.ref 15), some (.int (nI n)), some (.int (nI i))] [] ν := by
    intro d
    induction d with
    | zero =>
      intro i ν hi hp0 hp1
      have : i = n + 2 := by omega
      subst this
      refine hY 1 _ _ _ (And.intro (fun _ => ?_) (fun h => absurd ?_ h))
      · refine hY 3 _ _ _ (cp n 0 _ (ν 14) (by omega) ?_ ?_)
        · have := hp1 (by show ¬ (1 : Int32) = 0; decide)
          exact this
        · funext j
          rw [pk_cpy_out (by omega)]
          rfl
      · rw [show (2 : Int32) = nI 2 from rfl, nI_add]; exact Int32.le_refl _
    | succ d ih =>
      intro i ν hi hp0 hp1
      refine hY 1 _ _ _ (And.intro (fun h => absurd h ?_) (fun _ => And.intro rfl (And.intro (fun h => ?_) (fun h => ?_))))
      · rw [show (2 : Int32) = nI 2 from rfl, nI_add]; exact nI_ge (by omega) (by omega)
      · have h0 := b2_ne h
        rw [f_wn, if_neg h0] at hp0 hp1
        refine hY 2 _ _ _ ?_
        have := ih (i + 1) (f_w ν) (by omega) hp0 hp1
        rw [nI_succ] at this
        exact this
      · have h0 : ν 6 10 = 0 := Decidable.not_not.mp (b2_eq h)
        rw [f_wn, if_pos h0] at hp0
        exact And.intro (Or.inl rfl) (hp0 rfl)
  refine hY 0 _ _ _ ?_
  have hmin : (if (24 : Int32) < μ 15 3 then (24 : Int32) else μ 15 3) = nI n := by
    rw [hn, if_neg]
    exact nI_nlt (a := 24) (b := n) h24 (by omega)
  have := wr (n + 2) 0 μ (by omega) (fun h => by unfold f_wN at hC; rw [if_pos h] at hC; exact hC) (fun h => by unfold f_wN at hC; rw [if_neg h] at hC; exact hC)
  rw [← hmin] at this
  exact this
theorem m_Me_writeNote (E : rz_E) : rz_MI SH CL E y_Me_writeNote 6 (Cond.code y_Me_writeNote c_Me_writeNote 6 (some .boolean) :: rz_tbl) ({ frames := 1, cells := 0, slots := 0, locals := 21 }) C_Me_writeNote := rz_metI (by decide) rfl (fun X _ G => sd_Me_writeNote X G) bd_Me_writeNote
theorem cd_Me_writeNote : rz_Cd rz_tbl y_Me_writeNote c_Me_writeNote 6 (some .boolean) (Cond.code y_Me_writeNote c_Me_writeNote 6 (some .boolean) :: rz_tbl) 3 ({ frames := 1, cells := 0, slots := 0, locals := 21 }) := ⟨rz_good wd_513, ⟨_, rfl⟩, wd_43, by decide +kernel, rfl, rfl⟩
