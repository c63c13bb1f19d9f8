/-! what the steps leave as it was -/
theorem f_coL_ne : ∀ (d i : Nat) (μ : rz_M) {k : Nat}, k ≠ 6 → k ≠ 13 → (f_coL d i μ).2 k = μ k
  | 0, i, μ, k, h6, h13 => by
    unfold f_coL
    split
    · exact f_w_ne h6
    · show rz_up (f_w μ) 6 5 0 k = μ k
      rw [rz_up_k h6, f_w_ne h6]
  | d + 1, i, μ, k, h6, h13 => by
    unfold f_coL
    split
    · exact f_w_ne h6
    · rw [f_coL_ne d (i + 1) _ h6 h13, f_put_ne h13, f_w_ne h6]
theorem f_nt_ne {f p : Int32} {n : Nat} {μ : rz_M} {k : Nat} (h6 : k ≠ 6) (h14 : k ≠ 14) : f_nt f p n μ k = μ k := by
  unfold f_nt
  rw [rz_up_k h6, rz_uf_ne h14, rz_up_k h6, rz_up_k h6, rz_up_k h6]
theorem f_wN_ne {f p : Int32} {n : Nat} {μ : rz_M} {k : Nat} (h6 : k ≠ 6) (h14 : k ≠ 14) : (f_wN f p n μ).2 k = μ k := by
  unfold f_wN
  split
  · exact f_wn_ne _ _ h6
  · show f_nt f p n _ k = μ k
    rw [f_nt_ne h6 h14, f_wn_ne _ _ h6]
theorem f_chg_ne {n : Nat} {μ : rz_M} {k : Nat} (h6 : k ≠ 6) (h13 : k ≠ 13) (h14 : k ≠ 14) : (f_chg n μ).2 k = μ k := by
  unfold f_chg f_chg2
  repeat' split
  all_goals first | rfl | (show (f_wN _ _ _ _).2 k = μ k; exact f_wN_ne h6 h14) | (show (f_coL _ _ _).2 k = μ k; rw [f_coL_ne _ _ _ h6 h13, f_wN_ne h6 h14])
theorem f_cmp_ne {x : Int32} {μ : rz_M} {k : Nat} (h5 : k ≠ 5) (h6 : k ≠ 6) : (f_cmp x μ).2 k = μ k := by
  unfold f_cmp f_cmp1
  repeat' split
  all_goals simp only [rz_up_k h5, rz_up_k h6, f_w_ne h6]
theorem f_tell_ne {μ : rz_M} {k : Nat} (h5 : k ≠ 5) (h6 : k ≠ 6) : (f_tell μ).2 k = μ k := by
  unfold f_tell
  repeat' split
  all_goals first | rfl | exact f_cmp_ne h5 h6
theorem f_renew_ne {μ : rz_M} {k : Nat} (h6 : k ≠ 6) : (f_renew μ).2 k = μ k := by
  unfold f_renew
  repeat' split
  all_goals simp only [rz_up_k h6, f_w_ne h6]
theorem f_fi2_ne {x : Int32} {μ : rz_M} {k : Nat} (h5 : k ≠ 5) : (f_fi2 x μ).2 k = μ k := by
  unfold f_fi2
  repeat' split
  all_goals simp only [rz_up_k h5]
theorem f_fi_ne {μ : rz_M} {k : Nat} (h5 : k ≠ 5) : (f_fi μ).2 k = μ k := by
  unfold f_fi
  repeat' split
  all_goals first | rfl | exact f_fi2_ne h5
theorem f_rd_ne {n b : Nat} {μ : rz_M} {k : Nat} (h17 : k ≠ 17) (h18 : k ≠ 18) : f_rd n b μ k = μ k := by
  unfold f_rd
  rw [rz_up_k h17, rz_uf_ne h18]
theorem f_read_ne {μ : rz_M} {k : Nat} (h17 : k ≠ 17) (h18 : k ≠ 18) : (f_read μ).2 k = μ k := by
  unfold f_read
  repeat' split
  all_goals first | rfl | exact f_rd_ne h17 h18
theorem f_parse_ne {μ : rz_M} {k : Nat} (h15 : k ≠ 15) : f_parse μ k = μ k := by
  unfold f_parse
  rw [rz_up_k h15, rz_up_k h15]
/-- a COMMAND leaves all but the worker's, the memory's, the files' OCTETS, note, command, answer -/
theorem f_perf_ne {μ : rz_M} {k : Nat} (h5 : k ≠ 5) (h6 : k ≠ 6) (h13 : k ≠ 13) (h14 : k ≠ 14) (h15 : k ≠ 15) (h17 : k ≠ 17) (h18 : k ≠ 18) : (f_perf μ).2 k = μ k := by
  unfold f_perf f_ins
  repeat' split
  all_goals first
    | exact f_parse_ne h15
    | (rw [f_tell_ne h5 h6]; exact f_parse_ne h15)
    | (rw [f_renew_ne h6]; exact f_parse_ne h15)
    | (rw [f_fi_ne h5]; exact f_parse_ne h15)
    | (rw [f_read_ne h17 h18]; exact f_parse_ne h15)
    | (rw [f_chg_ne h6 h13 h14]; exact f_parse_ne h15)
theorem v_n_le {μ : rz_M} {p : Int32} {a : Int32} (hz : ∀ i, i < 8 → ∃ z : Nat, z ≤ 24 ∧ μ 10 i = nI z) (h8 : μ 7 6 ≤ 8) (hp : p = v_plc μ) (h : v_test p a μ = 36864) : v_n μ ≤ 24 := by
  subst hp
  obtain ⟨k0, k1, k2, k3⟩ := v_test_ok h
  obtain ⟨f, hf⟩ := nI_of k0
  obtain ⟨q, hq⟩ := nI_of k2
  have hf8 : f < 8 := by
    have : nI f < 8 := by rw [← hf.2]; exact Int32.lt_of_lt_of_le (Int32.not_le.mp k1) h8
    exact (nI_ltI (b := 8) hf.1 (by omega)).mp this
  obtain ⟨z, hz24, hzz⟩ := hz f hf8
  have cf : (μ 5 5).toNatClampNeg = f := nc hf.2 hf.1
  have hqz : q < z := by
    rw [cf, hzz, hq.2] at k3
    rcases Nat.lt_or_ge q z with r | r
    · exact r
    · exact absurd (nI_le r hq.1) k3
  have hth : v_th μ = nI (z - q) := by unfold v_th; rw [cf, hzz, hq.2]; exact pk_sub (by omega)
  unfold v_n
  rw [hth, nI_clamp (by omega)]
  omega
theorem f_read_17 {μ : rz_M} (hz : ∀ i, i < 8 → ∃ z : Nat, z ≤ 24 ∧ μ 10 i = nI z) (h8 : μ 7 6 ≤ 8) (h17 : μ 17 1 = 0) : (∃ a : Nat, a ≤ 24 ∧ (f_read μ).2 17 1 = nI a) ∧ (f_read μ).2 17 2 = μ 17 2 := by
  have h0 : μ 17 1 = nI 0 := h17
  unfold f_read
  split
  · exact ⟨⟨0, by omega, h0⟩, rfl⟩
  · split
    · split
      · next ht =>
        have hn := v_n_le hz h8 rfl ht
        split
        · exact ⟨⟨_, hn, rfl⟩, rfl⟩
        · exact ⟨⟨_, hn, rfl⟩, rfl⟩
      · exact ⟨⟨0, by omega, h0⟩, rfl⟩
    · exact ⟨⟨0, by omega, h0⟩, rfl⟩
theorem f_perf_17 {μ : rz_M} (hI : IW μ) : (∃ a : Nat, a ≤ 24 ∧ (f_perf μ).2 17 1 = nI a) ∧ (f_perf μ).2 17 2 = μ 17 2 := by
  obtain ⟨⟨c, hc, c1, c8⟩, hz, h40, h17, ho⟩ := hI
  have h8 : μ 7 6 ≤ 8 := by rw [hc]; exact nI_le (b := 8) c8 (by omega)
  have e : ∀ ν : rz_M, ν 17 = μ 17 → (∃ a : Nat, a ≤ 24 ∧ ν 17 1 = nI a) ∧ ν 17 2 = μ 17 2 := by
    intro ν hν
    rw [hν]
    exact ⟨⟨0, by omega, h17⟩, rfl⟩
  have ep : f_parse μ 17 = μ 17 := f_parse_ne (by decide)
  unfold f_perf f_ins
  split
  · split
    · split
      · exact e _ ((f_tell_ne (by decide) (by decide)).trans ep)
      · split
        · exact e _ ((f_renew_ne (by decide)).trans ep)
        · split
          · exact e _ ((f_fi_ne (by decide)).trans ep)
          · split
            · exact f_read_17 (μ := f_parse μ) hz h8 h17
            · split
              · exact e _ ((f_chg_ne (by decide) (by decide) (by decide)).trans ep)
              · exact e _ ep
    · exact e _ ep
  · exact e _ ep
def OV (x : Int32) : Prop := ∃ o : Nat, o ≤ 255 ∧ x = nI o
theorem OCT_upd {f : Nat → Int32} (h : OCT f) {x : Int32} (hx : OV x) (i : Nat) : OCT (upd f i x) := by
  intro j
  by_cases hj : j = i
  · subst hj; rw [pk_us]; exact hx
  · rw [pk_un hj]; exact h j
theorem OCT_up {μ : rz_M} {k : Nat} (h : OCT (μ k)) {x : Int32} (hx : OV x) (i : Nat) : OCT (rz_up μ k i x k) := by
  unfold rz_up
  rw [rz_uf_eq]
  exact OCT_upd h hx i
/-- the COMMAND that gathers -/
def JC (μ : rz_M) : Prop := (∃ m : Nat, m ≤ 40 ∧ μ 15 1 = nI m) ∧ OCT (μ 16)
theorem f_Co_add_ne {x : Int32} {μ : rz_M} {k : Nat} (h15 : k ≠ 15) (h16 : k ≠ 16) : f_Co_add x μ k = μ k := by
  unfold f_Co_add
  split
  · exact rz_up_k h15
  · rw [rz_up_k h16, rz_up_k h15]
theorem JC_add {x : Int32} {μ : rz_M} (h : JC μ) (hx : OV x) : JC (f_Co_add x μ) := by
  obtain ⟨⟨m, hm, e⟩, ho⟩ := h
  unfold f_Co_add
  split
  · exact ⟨⟨m, hm, e⟩, ho⟩
  · next q =>
    have hlt : m < 40 := by
      rw [e] at q
      rcases Nat.lt_or_ge m 40 with r | r
      · exact r
      · exact absurd (nI_le (a := 40) r (by omega)) q
    refine ⟨⟨m + 1, by omega, ?_⟩, OCT_up ho hx _⟩
    rw [rz_up_k (by decide), rz_up_at, e, nI_succ]
def f_adds : Nat → Nat → rz_M → rz_M
  | 0, _, μ => μ
  | d + 1, i, μ => f_adds d (i + 1) (f_Co_add (μ 2 (3 + i)) μ)
theorem f_adds_ne : ∀ (d i : Nat) (μ : rz_M) {k : Nat}, k ≠ 15 → k ≠ 16 → f_adds d i μ k = μ k
  | 0, i, μ, k, _, _ => rfl
  | d + 1, i, μ, k, h15, h16 => by
    unfold f_adds
    rw [f_adds_ne d (i + 1) _ h15 h16, f_Co_add_ne h15 h16]
theorem JC_adds : ∀ (d i : Nat) (μ : rz_M), JC μ → OCT (μ 2) → JC (f_adds d i μ)
  | 0, i, μ, h, _ => h
  | d + 1, i, μ, h, ho => by
    unfold f_adds
    refine JC_adds d (i + 1) _ (JC_add h (ho _)) ?_
    rw [f_Co_add_ne (by decide) (by decide)]
    exact ho
def f_pd (μ : rz_M) : rz_M := f_wreset (f_lreset (rz_up μ 0 3 0))
def C_Ca_powerDown : rz_C := fun As μ P => As = [.ref 0] ∧ P none (f_pd μ)
def bk_Ca_powerDown : Nat → List rz_T := fun b => match b with
  | 0 => [tz_aload 0, tz_iconst 0, tz_putz SH 6 3, tz_aload 0, tz_get SH 6 0, tz_cv SH 0 3 1 C_Li_reset, tz_aload 0, tz_get SH 6 1, tz_cv SH 0 5 1 C_Wo_reset, tz_vret]
  | _ => []
def bp_Ca_powerDown : Nat → Nat := fun b => match b with
  | 0 => 0
  | _ => 0
set_option maxRecDepth 100000 in
set_option maxHeartbeats 4000000 in
theorem sd_Ca_powerDown (X : rz_X) (G : rz_Cx CL X c_Ca_powerDown 1 rz_tbl R_Ca ({ frames := 3, cells := 0, slots := 0, locals := 60 })) : ∀ b, rz_SB SH CL X bp_Ca_powerDown (rz_RV SH CL X c_Ca_powerDown) (bk_Ca_powerDown b) (bp_Ca_powerDown b) := fun b => match b with
  | 0 => (rz_cons (rz_aload_n G d_Ca_powerDown_0 rfl) (rz_cons (rz_iconst G d_Ca_powerDown_1 (by decide)) (rz_cons (rz_putz G rfl in_Ca ty_Ca tyok_Ca nm_Ca (by decide) rfl (by decide +kernel) wd_261 d_Ca_powerDown_2) (rz_cons (rz_aload_n G d_Ca_powerDown_5 rfl) (rz_cons (rz_get G rfl in_Ca (by decide) wd_258 d_Ca_powerDown_6) (rz_cons (rz_cvv G (m_Li_reset X.1) cd_Li_reset wd_306 wd_307 wd_308 rfl rfl (by decide) d_Ca_powerDown_9) (rz_cons (rz_aload_n G d_Ca_powerDown_12 rfl) (rz_cons (rz_get G rfl in_Ca (by decide) wd_259 d_Ca_powerDown_13) (rz_cons (rz_cvv G (m_Wo_reset X.1) cd_Wo_reset wd_314 wd_315 wd_316 rfl rfl (by decide) d_Ca_powerDown_16) (rz_cons (rz_vret (npc := 0) d_Ca_powerDown_19) rz_nil))))))))))
  | _ + 1 => rz_nil
set_option maxRecDepth 100000 in
set_option maxHeartbeats 4000000 in
theorem bd_Ca_powerDown : ∀ (Y : Nat → rz_K) (P : rz_P), (∀ b ls st μ, rz_ex P Y (bk_Ca_powerDown b) ls st μ → Y b ls st μ) → ∀ As μ, C_Ca_powerDown As μ P → Y 0 (rz_pad 1 (rz_ent As)) [] μ := by
  intro Y P hY As μ hC
  obtain ⟨rfl, hC⟩ := hC
  exact hY 0 _ _ _ (And.intro (Or.inl rfl) (And.intro rfl (And.intro rfl hC)))
theorem m_Ca_powerDown (E : rz_E) : rz_MV SH CL E y_Ca_powerDown 1 (Cond.code y_Ca_powerDown c_Ca_powerDown 1 none :: rz_tbl) ({ frames := 3, cells := 0, slots := 0, locals := 60 }) C_Ca_powerDown := rz_metV (by decide) rfl (fun X _ G => sd_Ca_powerDown X G) bd_Ca_powerDown
theorem cd_Ca_powerDown : rz_Cd rz_tbl y_Ca_powerDown c_Ca_powerDown 1 none (Cond.code y_Ca_powerDown c_Ca_powerDown 1 none :: rz_tbl) 0 ({ frames := 3, cells := 0, slots := 0, locals := 60 }) := ⟨rz_good wd_305, ⟨_, rfl⟩, wd_40, by decide +kernel, rfl, rfl⟩
def v_oct (w : Int64) (k : Int32) : Int32 := ((w.toUInt64 >>> ((8 * k).toInt64.toUInt64 &&& Int64.toUInt64 63)).toInt64).toInt32 &&& 255
def C_Ca_octetOf : rz_C := fun As μ P => ∃ (w : Int64) (k : Int32), As = [.long w, .int k] ∧ P (some (.int (v_oct w k))) μ
def bk_Ca_octetOf : Nat → List rz_T := fun b => match b with
  | 0 => [tz_lload 0, tz_bipush 8, tz_iload 2, tz_imul, tz_lushr, tz_l2i, tz_sipush 255, tz_iand, tz_iret]
  | _ => []
def bp_Ca_octetOf : Nat → Nat := fun b => match b with
  | 0 => 0
  | _ => 0
set_option maxRecDepth 100000 in
set_option maxHeartbeats 4000000 in
theorem sd_Ca_octetOf (X : rz_X) (G : rz_Cx CL X c_Ca_octetOf 3 rz_tbl R_Ca ({ frames := 0, cells := 0, slots := 0, locals := 0 })) : ∀ b, rz_SB SH CL X bp_Ca_octetOf (rz_RI SH CL X c_Ca_octetOf (fun v => narrow .int (.int v) = .int v)) (bk_Ca_octetOf b) (bp_Ca_octetOf b) := fun b => match b with
  | 0 => (rz_cons (rz_lload_n G d_Ca_octetOf_0 rfl) (rz_cons (rz_bipush G d_Ca_octetOf_1 (by decide)) (rz_cons (rz_iload_n G d_Ca_octetOf_3 rfl) (rz_cons (rz_imul G d_Ca_octetOf_4) (rz_cons (rz_lushr G d_Ca_octetOf_5) (rz_cons (rz_l2i G d_Ca_octetOf_6) (rz_cons (rz_sipush G d_Ca_octetOf_7 (by decide)) (rz_cons (rz_iand G d_Ca_octetOf_10) (rz_cons (rz_iret (npc := 0) (fun _ => rfl) d_Ca_octetOf_11) rz_nil)))))))))
  | _ + 1 => rz_nil
set_option maxRecDepth 100000 in
set_option maxHeartbeats 4000000 in
theorem bd_Ca_octetOf : ∀ (Y : Nat → rz_K) (P : rz_P), (∀ b ls st μ, rz_ex P Y (bk_Ca_octetOf b) ls st μ → Y b ls st μ) → ∀ As μ, C_Ca_octetOf As μ P → Y 0 (rz_pad 3 (rz_ent As)) [] μ := by
  intro Y P hY As μ hC
  obtain ⟨w, k, rfl, hC⟩ := hC
  exact hY 0 _ _ _ hC
theorem m_Ca_octetOf (E : rz_E) : rz_MI SH CL E y_Ca_octetOf 3 (Cond.code y_Ca_octetOf c_Ca_octetOf 3 (some .int) :: rz_tbl) ({ frames := 0, cells := 0, slots := 0, locals := 0 }) C_Ca_octetOf := rz_metI (by decide) rfl (fun X _ G => sd_Ca_octetOf X G) bd_Ca_octetOf
theorem cd_Ca_octetOf : rz_Cd rz_tbl y_Ca_octetOf c_Ca_octetOf 3 (some .int) (Cond.code y_Ca_octetOf c_Ca_octetOf 3 (some .int) :: rz_tbl) 2 ({ frames := 0, cells := 0, slots := 0, locals := 0 }) := ⟨rz_good wd_356, ⟨_, rfl⟩, wd_40, by decide +kernel, rfl, rfl⟩
def C_Ca_tear : rz_C := fun As μ P => ∃ n : Int32, As = [.ref 0, .int n] ∧ PQ P (if n < -1 then (-1, μ) else if n ≤ 200 then (μ 6 10, rz_up μ 6 10 n) else (-1, μ))
def bk_Ca_tear : Nat → List rz_T := fun b => match b with
  | 0 => [tz_iload 1, tz_iconst (-1), tz_icmp_lt 1, tz_iload 1, tz_sipush 200, tz_icmp_le 2, tz_fall 1]
  | 1 => [tz_iconst (-1), tz_iret]
  | 2 => [tz_aload 0, tz_get SH 6 2, tz_get SH 4 10, tz_istore 2, tz_aload 0, tz_get SH 6 2, tz_iload 1, tz_put SH 4 10, tz_iload 2, tz_iret]
  | _ => []
def bp_Ca_tear : Nat → Nat := fun b => match b with
  | 0 => 0
  | 1 => 12
  | 2 => 14
  | _ => 0
set_option maxRecDepth 100000 in
set_option maxHeartbeats 4000000 in
theorem sd_Ca_tear (X : rz_X) (G : rz_Cx CL X c_Ca_tear 3 rz_tbl R_Ca ({ frames := 0, cells := 0, slots := 0, locals := 0 })) : ∀ b, rz_SB SH CL X bp_Ca_tear (rz_RI SH CL X c_Ca_tear (fun v => narrow .int (.int v) = .int v)) (bk_Ca_tear b) (bp_Ca_tear b) := fun b => match b with
  | 0 => (rz_cons (rz_iload_n G d_Ca_tear_0 rfl) (rz_cons (rz_iconst G d_Ca_tear_1 (by decide)) (rz_cons (rz_icmp_lt G d_Ca_tear_2 (by decide)) (rz_cons (rz_iload_n G d_Ca_tear_5 rfl) (rz_cons (rz_sipush G d_Ca_tear_6 (by decide)) (rz_cons (rz_icmp_le G d_Ca_tear_9 (by decide)) (rz_fall rfl)))))))
  | 1 => (rz_cons (rz_iconst G d_Ca_tear_12 (by decide)) (rz_cons (rz_iret (npc := 0) (fun _ => rfl) d_Ca_tear_13) rz_nil))
  | 2 => (rz_cons (rz_aload_n G d_Ca_tear_14 rfl) (rz_cons (rz_get G rfl in_Ca (by decide) wd_260 d_Ca_tear_15) (rz_cons (rz_getN G rfl in_Me (by decide) wn_24 d_Ca_tear_18) (rz_cons (rz_istore_n G d_Ca_tear_21 rfl (by decide)) (rz_cons (rz_aload_n G d_Ca_tear_22 rfl) (rz_cons (rz_get G rfl in_Ca (by decide) wd_260 d_Ca_tear_23) (rz_cons (rz_iload_n G d_Ca_tear_26 rfl) (rz_cons (rz_putN G rfl in_Me ty_Me tyok_Me nm_Me (by decide) rfl (by decide +kernel) wn_24 d_Ca_tear_27) (rz_cons (rz_iload_n G d_Ca_tear_30 rfl) (rz_cons (rz_iret (npc := 0) (fun _ => rfl) d_Ca_tear_31) rz_nil))))))))))
  | _ + 3 => rz_nil
set_option maxRecDepth 100000 in
set_option maxHeartbeats 4000000 in
theorem bd_Ca_tear : ∀ (Y : Nat → rz_K) (P : rz_P), (∀ b ls st μ, rz_ex P Y (bk_Ca_tear b) ls st μ → Y b ls st μ) → ∀ As μ, C_Ca_tear As μ P → Y 0 (rz_pad 3 (rz_ent As)) [] μ := by
  intro Y P hY As μ hC
  obtain ⟨n, rfl, hC⟩ := hC
  refine hY 0 _ _ _ (And.intro (fun h => hY 1 _ _ _ (rzT (PQ P) h hC)) (fun h => ?_))
  have hC := rzF (PQ P) h hC
  exact And.intro (fun h => hY 2 _ _ _ (rzT (PQ P) h hC)) (fun h => hY 1 _ _ _ (rzF (PQ P) h hC))
theorem m_Ca_tear (E : rz_E) : rz_MI SH CL E y_Ca_tear 3 (Cond.code y_Ca_tear c_Ca_tear 3 (some .int) :: rz_tbl) ({ frames := 0, cells := 0, slots := 0, locals := 0 }) C_Ca_tear := rz_metI (by decide) rfl (fun X _ G => sd_Ca_tear X G) bd_Ca_tear
theorem cd_Ca_tear : rz_Cd rz_tbl y_Ca_tear c_Ca_tear 3 (some .int) (Cond.code y_Ca_tear c_Ca_tear 3 (some .int) :: rz_tbl) 1 ({ frames := 0, cells := 0, slots := 0, locals := 0 }) := ⟨rz_good wd_297, ⟨_, rfl⟩, wd_40, by decide +kernel, rfl, rfl⟩
def C_Ca_off : rz_C := fun As μ P => As = [.ref 0] ∧ PQ P (if μ 0 3 = 0 then 0 else 1, f_pd μ)
def bk_Ca_off : Nat → List rz_T := fun b => match b with
  | 0 => [tz_aload 0, tz_get SH 6 3, tz_if_eq 1, tz_iconst 1, tz_goto 2]
  | 1 => [tz_iconst 0, tz_fall 2]
  | 2 => [tz_istore 1, tz_aload 0, tz_cv SH 0 6 1 C_Ca_powerDown, tz_iload 1, tz_iret]
  | _ => []
def bp_Ca_off : Nat → Nat := fun b => match b with
  | 0 => 0
  | 1 => 11
  | 2 => 12
  | _ => 0
set_option maxRecDepth 100000 in
set_option maxHeartbeats 4000000 in
theorem sd_Ca_off (X : rz_X) (G : rz_Cx CL X c_Ca_off 2 rz_tbl R_Ca ({ frames := 4, cells := 0, slots := 0, locals := 80 })) : ∀ b, rz_SB SH CL X bp_Ca_off (rz_RI SH CL X c_Ca_off (fun v => narrow .int (.int v) = .int v)) (bk_Ca_off b) (bp_Ca_off b) := fun b => match b with
  | 0 => (rz_cons (rz_aload_n G d_Ca_off_0 rfl) (rz_cons (rz_get G rfl in_Ca (by decide) wd_261 d_Ca_off_1) (rz_cons (rz_if_eq G d_Ca_off_4 (by decide)) (rz_cons (rz_iconst G d_Ca_off_7 (by decide)) (rz_cons (rz_goto (npc := 0) G d_Ca_off_8 (by decide)) rz_nil)))))
  | 1 => (rz_cons (rz_iconst G d_Ca_off_11 (by decide)) (rz_fall rfl))
  | 2 => (rz_cons (rz_istore_n G d_Ca_off_12 rfl (by decide)) (rz_cons (rz_aload_n G d_Ca_off_13 rfl) (rz_cons (rz_cvv G (m_Ca_powerDown X.1) cd_Ca_powerDown wd_302 wd_304 wd_0 rfl rfl (by decide) d_Ca_off_14) (rz_cons (rz_iload_n G d_Ca_off_17 rfl) (rz_cons (rz_iret (npc := 0) (fun _ => rfl) d_Ca_off_18) rz_nil)))))
  | _ + 3 => rz_nil
set_option maxRecDepth 100000 in
set_option maxHeartbeats 4000000 in
theorem bd_Ca_off : ∀ (Y : Nat → rz_K) (P : rz_P), (∀ b ls st μ, rz_ex P Y (bk_Ca_off b) ls st μ → Y b ls st μ) → ∀ As μ, C_Ca_off As μ P → Y 0 (rz_pad 2 (rz_ent As)) [] μ := by
  intro Y P hY As μ hC
  obtain ⟨rfl, hC⟩ := hC
  refine hY 0 _ _ _ (And.intro (fun h => hY 1 _ _ _ (hY 2 _ _ _ (And.intro rfl ?_))) (fun h => hY 2 _ _ _ (And.intro rfl ?_)))
  · rw [if_pos h] at hC; exact hC
  · rw [if_neg h] at hC; exact hC
theorem m_Ca_off (E : rz_E) : rz_MI SH CL E y_Ca_off 2 (Cond.code y_Ca_off c_Ca_off 2 (some .int) :: rz_tbl) ({ frames := 4, cells := 0, slots := 0, locals := 80 }) C_Ca_off := rz_metI (by decide) rfl (fun X _ G => sd_Ca_off X G) bd_Ca_off
theorem cd_Ca_off : rz_Cd rz_tbl y_Ca_off c_Ca_off 2 (some .int) (Cond.code y_Ca_off c_Ca_off 2 (some .int) :: rz_tbl) 0 ({ frames := 4, cells := 0, slots := 0, locals := 80 }) := ⟨rz_good wd_349, ⟨_, rfl⟩, wd_40, by decide +kernel, rfl, rfl⟩
def f_on1 (μ : rz_M) : rz_M := f_greet (μ 6 7) (rz_up μ 0 3 1)
def f_on (n : Nat) (μ : rz_M) : Int32 × rz_M := if μ 6 5 = 0 then (1, f_on1 (f_pd μ)) else if ¬ (f_coL n 0 (f_pd μ)).1 = 0 then (1, f_on1 (f_coL n 0 (f_pd μ)).2) else (0, (f_coL n 0 (f_pd μ)).2)
def C_Ca_on : rz_C := fun As μ P => ∃ n : Nat, As = [.ref 0] ∧ (μ 6 5 = 0 ∨ (μ 6 4 = nI n ∧ n ≤ 24)) ∧ PQ P (f_on n μ)
def bk_Ca_on : Nat → List rz_T := fun b => match b with
  | 0 => [tz_aload 0, tz_cv SH 0 6 1 C_Ca_powerDown, tz_aload 0, tz_get SH 6 2, tz_get SH 4 5, tz_if_eq 1, tz_aload 0, tz_get SH 6 2, tz_cv SH 0 4 2 C_Me_carryOutNote, tz_if_ne 1, tz_iconst 0, tz_iret]
  | 1 => [tz_aload 0, tz_iconst 1, tz_putz SH 6 3, tz_aload 0, tz_get SH 6 0, tz_aload 0, tz_get SH 6 2, tz_get SH 4 7, tz_cv SH 1 3 2 C_Li_sendGreeting, tz_iconst 1, tz_iret]
  | _ => []
def bp_Ca_on : Nat → Nat := fun b => match b with
  | 0 => 0
  | 1 => 26
  | _ => 0
set_option maxRecDepth 100000 in
set_option maxHeartbeats 4000000 in
theorem sd_Ca_on (X : rz_X) (G : rz_Cx CL X c_Ca_on 1 rz_tbl R_Ca ({ frames := 4, cells := 0, slots := 0, locals := 80 })) : ∀ b, rz_SB SH CL X bp_Ca_on (rz_RI SH CL X c_Ca_on (fun v => narrow .int (.int v) = .int v)) (bk_Ca_on b) (bp_Ca_on b) := fun b => match b with
  | 0 => (rz_cons (rz_aload_n G d_Ca_on_0 rfl) (rz_cons (rz_cvv G (m_Ca_powerDown X.1) cd_Ca_powerDown wd_302 wd_304 wd_0 rfl rfl (by decide) d_Ca_on_1) (rz_cons (rz_aload_n G d_Ca_on_4 rfl) (rz_cons (rz_get G rfl in_Ca (by decide) wd_260 d_Ca_on_5) (rz_cons (rz_getN G rfl in_Me (by decide) wn_17 d_Ca_on_8) (rz_cons (rz_if_eq G d_Ca_on_11 (by decide)) (rz_cons (rz_aload_n G d_Ca_on_14 rfl) (rz_cons (rz_get G rfl in_Ca (by decide) wd_260 d_Ca_on_15) (rz_cons (rz_cvi G (m_Me_carryOutNote X.1) cd_Me_carryOutNote wd_330 wd_331 wd_332 rfl rfl (by decide) d_Ca_on_18) (rz_cons (rz_if_ne G d_Ca_on_21 (by decide)) (rz_cons (rz_iconst G d_Ca_on_24 (by decide)) (rz_cons (rz_iret (npc := 0) (fun _ => rfl) d_Ca_on_25) rz_nil))))))))))))
  | 1 => (rz_cons (rz_aload_n G d_Ca_on_26 rfl) (rz_cons (rz_iconst G d_Ca_on_27 (by decide)) (rz_cons (rz_putz G rfl in_Ca ty_Ca tyok_Ca nm_Ca (by decide) rfl (by decide +kernel) wd_261 d_Ca_on_28) (rz_cons (rz_aload_n G d_Ca_on_31 rfl) (rz_cons (rz_get G rfl in_Ca (by decide) wd_258 d_Ca_on_32) (rz_cons (rz_aload_n G d_Ca_on_35 rfl) (rz_cons (rz_get G rfl in_Ca (by decide) wd_260 d_Ca_on_36) (rz_cons (rz_getN G rfl in_Me (by decide) wn_20 d_Ca_on_39) (rz_cons (rz_cvv G (m_Li_sendGreeting X.1) cd_Li_sendGreeting wd_342 wd_343 wd_344 rfl rfl (by decide) d_Ca_on_42) (rz_cons (rz_iconst G d_Ca_on_45 (by decide)) (rz_cons (rz_iret (npc := 0) (fun _ => rfl) d_Ca_on_46) rz_nil)))))))))))
  | _ + 2 => rz_nil
set_option maxRecDepth 100000 in
set_option maxHeartbeats 4000000 in
theorem bd_Ca_on : ∀ (Y : Nat → rz_K) (P : rz_P), (∀ b ls st μ, rz_ex P Y (bk_Ca_on b) ls st μ → Y b ls st μ) → ∀ As μ, C_Ca_on As μ P → Y 0 (rz_pad 1 (rz_ent As)) [] μ := by
  intro Y P hY As μ hC
  obtain ⟨n, rfl, hn, hC⟩ := hC
  refine hY 0 _ _ _ (And.intro rfl (And.intro (fun (h : μ 6 5 = 0) => ?_) (fun (h : ¬ μ 6 5 = 0) => ?_)))
  · exact hY 1 _ _ _ (And.intro (Or.inr rfl) ⟨_, rfl, rzT (PQ P) h hC⟩)
  · have hC := rzF (PQ P) h hC
    obtain ⟨h4, h24⟩ := hn.resolve_left h
    refine ⟨n, rfl, h4, h24, And.intro (fun h => ?_) (fun h => rzN (PQ P) h hC)⟩
    exact hY 1 _ _ _ (And.intro (Or.inr rfl) ⟨_, rfl, rzT (PQ P) h hC⟩)
theorem m_Ca_on (E : rz_E) : rz_MI SH CL E y_Ca_on 1 (Cond.code y_Ca_on c_Ca_on 1 (some .int) :: rz_tbl) ({ frames := 4, cells := 0, slots := 0, locals := 80 }) C_Ca_on := rz_metI (by decide) rfl (fun X _ G => sd_Ca_on X G) bd_Ca_on
theorem cd_Ca_on : rz_Cd rz_tbl y_Ca_on c_Ca_on 1 (some .int) (Cond.code y_Ca_on c_Ca_on 1 (some .int) :: rz_tbl) 0 ({ frames := 4, cells := 0, slots := 0, locals := 80 }) := ⟨rz_good wd_301, ⟨_, rfl⟩, wd_40, by decide +kernel, rfl, rfl⟩
def f_file (d n s r c : Int32) (μ : rz_M) : Int32 × rz_M :=
  if n < 0 then (-1, μ) else if 65535 < n then (-1, μ) else if ¬ d < 0 ∧ ¬ μ 7 6 ≤ d ∧ μ 10 d.toNatClampNeg = 0 then
    (if s < 0 then (-1, μ) else if s ≤ 24 then
      (if ¬ s ≤ 0 ∧ ¬ ((¬ r < 0 ∧ ¬ 2 < r) ∧ (¬ c < 0 ∧ ¬ 2 < c)) then (-1, μ) else if μ 0 3 = 0 then (if μ 7 6 < 8 then (μ 7 6, f_add d n s r c μ) else (-2, μ)) else (-3, μ)) else (-1, μ)) else (-1, μ)
def C_Ca_file : rz_C := fun As μ P => ∃ d n s r c : Int32, As = [.ref 0, .int d, .int n, .int s, .int r, .int c] ∧ 0 ≤ μ 7 6 ∧ μ 7 6 ≤ 8 ∧ PQ P (f_file d n s r c μ)
def bk_Ca_file : Nat → List rz_T := fun b => match b with
  | 0 => [tz_aload 0, tz_get SH 6 2, tz_get SH 4 0, tz_astore 6, tz_iload 2, tz_if_lt 1, tz_iload 2, tz_ldc 65535, tz_icmp_gt 1, tz_aload 6, tz_iload 1, tz_cv SH 1 2 2 C_Fi_isDirectory, tz_if_ne 2, tz_fall 1]
  | 1 => [tz_iconst (-1), tz_iret]
  | 2 => [tz_iload 3, tz_if_lt 3, tz_iload 3, tz_bipush 24, tz_icmp_le 4, tz_fall 3]
  | 3 => [tz_iconst (-1), tz_iret]
  | 4 => [tz_iload 3, tz_if_le 6, tz_iload 4, tz_cs 1 1 C_Fi_isRight, tz_if_eq 5, tz_iload 5, tz_cs 1 1 C_Fi_isRight, tz_if_ne 6, tz_fall 5]
  | 5 => [tz_iconst (-1), tz_iret]
  | 6 => [tz_aload 0, tz_get SH 6 3, tz_if_eq 7, tz_bipush (-3), tz_iret]
  | 7 => [tz_aload 6, tz_iload 1, tz_iload 2, tz_iload 3, tz_iload 4, tz_iload 5, tz_cv SH 5 2 6 C_Fi_add, tz_iret]
  | _ => []
def bp_Ca_file : Nat → Nat := fun b => match b with
  | 0 => 0
  | 1 => 28
  | 2 => 30
  | 3 => 40
  | 4 => 42
  | 5 => 62
  | 6 => 64
  | 7 => 74
  | _ => 0
set_option maxRecDepth 100000 in
set_option maxHeartbeats 4000000 in
theorem sd_Ca_file (X : rz_X) (G : rz_Cx CL X c_Ca_file 7 rz_tbl R_Ca ({ frames := 2, cells := 0, slots := 0, locals := 42 })) : ∀ b, rz_SB SH CL X bp_Ca_file (rz_RI SH CL X c_Ca_file (fun v => narrow .int (.int v) = .int v)) (bk_Ca_file b) (bp_Ca_file b) := fun b => match b with
  | 0 => (rz_cons (rz_aload_n G d_Ca_file_0 rfl) (rz_cons (rz_get G rfl in_Ca (by decide) wd_260 d_Ca_file_1) (rz_cons (rz_getN G rfl in_Me (by decide) wn_15 d_Ca_file_4) (rz_cons (rz_astore G d_Ca_file_7 (by decide)) (rz_cons (rz_iload_n G d_Ca_file_9 rfl) (rz_cons (rz_if_lt G d_Ca_file_10 (by decide)) (rz_cons (rz_iload_n G d_Ca_file_13 rfl) (rz_cons (rz_ldc G wd_278 d_Ca_file_14) (rz_cons (rz_icmp_gt G d_Ca_file_16 (by decide)) (rz_cons (rz_aload G d_Ca_file_19) (rz_cons (rz_iload_n G d_Ca_file_21 rfl) (rz_cons (rz_cvi G (m_Fi_isDirectory X.1) cd_Fi_isDirectory wd_279 wd_280 wd_281 rfl rfl (by decide) d_Ca_file_22) (rz_cons (rz_if_ne G d_Ca_file_25 (by decide)) (rz_fall rfl))))))))))))))
  | 1 => (rz_cons (rz_iconst G d_Ca_file_28 (by decide)) (rz_cons (rz_iret (npc := 0) (fun _ => rfl) d_Ca_file_29) rz_nil))
  | 2 => (rz_cons (rz_iload_n G d_Ca_file_30 rfl) (rz_cons (rz_if_lt G d_Ca_file_31 (by decide)) (rz_cons (rz_iload_n G d_Ca_file_34 rfl) (rz_cons (rz_bipush G d_Ca_file_35 (by decide)) (rz_cons (rz_icmp_le G d_Ca_file_37 (by decide)) (rz_fall rfl))))))
  | 3 => (rz_cons (rz_iconst G d_Ca_file_40 (by decide)) (rz_cons (rz_iret (npc := 0) (fun _ => rfl) d_Ca_file_41) rz_nil))
  | 4 => (rz_cons (rz_iload_n G d_Ca_file_42 rfl) (rz_cons (rz_if_le G d_Ca_file_43 (by decide)) (rz_cons (rz_iload G d_Ca_file_46) (rz_cons (rz_csi G (m_Fi_isRight X.1) cd_Fi_isRight wd_287 wd_288 (by decide) d_Ca_file_48) (rz_cons (rz_if_eq G d_Ca_file_51 (by decide)) (rz_cons (rz_iload G d_Ca_file_54) (rz_cons (rz_csi G (m_Fi_isRight X.1) cd_Fi_isRight wd_287 wd_288 (by decide) d_Ca_file_56) (rz_cons (rz_if_ne G d_Ca_file_59 (by decide)) (rz_fall rfl)))))))))
  | 5 => (rz_cons (rz_iconst G d_Ca_file_62 (by decide)) (rz_cons (rz_iret (npc := 0) (fun _ => rfl) d_Ca_file_63) rz_nil))
  | 6 => (rz_cons (rz_aload_n G d_Ca_file_64 rfl) (rz_cons (rz_get G rfl in_Ca (by decide) wd_261 d_Ca_file_65) (rz_cons (rz_if_eq G d_Ca_file_68 (by decide)) (rz_cons (rz_bipush G d_Ca_file_71 (by decide)) (rz_cons (rz_iret (npc := 0) (fun _ => rfl) d_Ca_file_73) rz_nil)))))
  | 7 => (rz_cons (rz_aload G d_Ca_file_74) (rz_cons (rz_iload_n G d_Ca_file_76 rfl) (rz_cons (rz_iload_n G d_Ca_file_77 rfl) (rz_cons (rz_iload_n G d_Ca_file_78 rfl) (rz_cons (rz_iload G d_Ca_file_79) (rz_cons (rz_iload G d_Ca_file_81) (rz_cons (rz_cvi G (m_Fi_add X.1) cd_Fi_add wd_290 wd_291 wd_292 rfl rfl (by decide) d_Ca_file_83) (rz_cons (rz_iret (npc := 0) (fun _ => rfl) d_Ca_file_86) rz_nil))))))))
  | _ + 8 => rz_nil
set_option maxRecDepth 100000 in
set_option maxHeartbeats 4000000 in
theorem bd_Ca_file : ∀ (Y : Nat → rz_K) (P : rz_P), (∀ b ls st μ, rz_ex P Y (bk_Ca_file b) ls st μ → Y b ls st μ) → ∀ As μ, C_Ca_file As μ P → Y 0 (rz_pad 7 (rz_ent As)) [] μ := by
  intro Y P hY As μ hC
  obtain ⟨d, n, s, r, c, rfl, h0, h8, hC⟩ := hC
  refine hY 0 _ _ _ (And.intro (fun h => hY 1 _ _ _ (rzT (PQ P) h hC)) (fun h => ?_))
  have hC := rzF (PQ P) h hC
  refine And.intro (fun h => hY 1 _ _ _ (rzT (PQ P) h hC)) (fun h => ?_)
  have hC := rzF (PQ P) h hC
  refine ⟨_, rfl, h8, And.intro (fun h => ?_) (fun h => hY 1 _ _ _ (rzF (PQ P) (b2_eq h) hC))⟩
  have hC := rzT (PQ P) (b2_ne h) hC
  refine hY 2 _ _ _ (And.intro (fun h => hY 3 _ _ _ (rzT (PQ P) h hC)) (fun h => ?_))
  have hC := rzF (PQ P) h hC
  refine And.intro (fun h => ?_) (fun h => hY 3 _ _ _ (rzF (PQ P) h hC))
  have hC := rzT (PQ P) h hC
  have fin : PQ P (if μ 0 3 = 0 then (if μ 7 6 < 8 then (μ 7 6, f_add d n s r c μ) else (-2, μ)) else (-3, μ)) → Y 6 [some (.ref 0), some (.int d), some (.int n), some (.int s), some (.int r), some (.int c), some (.ref 7)] [] μ := by
    intro hp
    refine hY 6 _ _ _ (And.intro (fun h => ?_) (fun h => rzF (PQ P) h hp))
    have hp := rzT (PQ P) h hp
    exact hY 7 _ _ _ ⟨_, _, _, _, _, rfl, h0, fun h => rzF (PQ P) h hp, fun h => rzT (PQ P) h hp⟩
  refine hY 4 _ _ _ (And.intro (fun h => fin (rzF (PQ P) (fun q => q.1 h) hC)) (fun hs => ?_))
  refine ⟨_, rfl, And.intro (fun h => hY 5 _ _ _ (rzT (PQ P) ⟨hs, fun q => b2_eq h q.1⟩ hC)) (fun hr => ?_)⟩
  refine ⟨_, rfl, And.intro (fun h => ?_) (fun h => hY 5 _ _ _ (rzT (PQ P) ⟨hs, fun q => b2_eq h q.2⟩ hC))⟩
  exact fin (rzF (PQ P) (fun q => q.2 ⟨b2_ne hr, b2_ne h⟩) hC)
theorem m_Ca_file (E : rz_E) : rz_MI SH CL E y_Ca_file 7 (Cond.code y_Ca_file c_Ca_file 7 (some .int) :: rz_tbl) ({ frames := 2, cells := 0, slots := 0, locals := 42 }) C_Ca_file := rz_metI (by decide) rfl (fun X _ G => sd_Ca_file X G) bd_Ca_file
theorem cd_Ca_file : rz_Cd rz_tbl y_Ca_file c_Ca_file 7 (some .int) (Cond.code y_Ca_file c_Ca_file 7 (some .int) :: rz_tbl) 5 ({ frames := 2, cells := 0, slots := 0, locals := 42 }) := ⟨rz_good wd_277, ⟨_, rfl⟩, wd_40, by decide +kernel, rfl, rfl⟩
def v_reply (k : Int32) (μ : rz_M) : Int32 := if k < 0 then -1 else if μ 1 3 ≤ k then -1 else μ 3 k.toNatClampNeg
def C_Ca_reply : rz_C := fun As μ P => ∃ k : Int32, As = [.ref 0, .int k] ∧ μ 1 3 ≤ 36 ∧ P (some (.int (v_reply k μ))) μ
def bk_Ca_reply : Nat → List rz_T := fun b => match b with
  | 0 => [tz_iload 1, tz_if_lt 1, tz_iload 1, tz_aload 0, tz_get SH 6 0, tz_get SH 3 3, tz_icmp_ge 1, tz_aload 0, tz_get SH 6 0, tz_get SH 3 2, tz_iload 1, tz_iald SH, tz_goto 2]
  | 1 => [tz_iconst (-1), tz_fall 2]
  | 2 => [tz_iret]
  | _ => []
def bp_Ca_reply : Nat → Nat := fun b => match b with
  | 0 => 0
  | 1 => 27
  | 2 => 28
  | _ => 0
set_option maxRecDepth 100000 in
set_option maxHeartbeats 4000000 in
theorem sd_Ca_reply (X : rz_X) (G : rz_Cx CL X c_Ca_reply 2 rz_tbl R_Ca ({ frames := 0, cells := 0, slots := 0, locals := 0 })) : ∀ b, rz_SB SH CL X bp_Ca_reply (rz_RI SH CL X c_Ca_reply (fun v => narrow .int (.int v) = .int v)) (bk_Ca_reply b) (bp_Ca_reply b) := fun b => match b with
  | 0 => (rz_cons (rz_iload_n G d_Ca_reply_0 rfl) (rz_cons (rz_if_lt G d_Ca_reply_1 (by decide)) (rz_cons (rz_iload_n G d_Ca_reply_4 rfl) (rz_cons (rz_aload_n G d_Ca_reply_5 rfl) (rz_cons (rz_get G rfl in_Ca (by decide) wd_258 d_Ca_reply_6) (rz_cons (rz_getN G rfl in_Li (by decide) wn_2 d_Ca_reply_9) (rz_cons (rz_icmp_ge G d_Ca_reply_12 (by decide)) (rz_cons (rz_aload_n G d_Ca_reply_15 rfl) (rz_cons (rz_get G rfl in_Ca (by decide) wd_258 d_Ca_reply_16) (rz_cons (rz_getN G rfl in_Li (by decide) wn_1 d_Ca_reply_19) (rz_cons (rz_iload_n G d_Ca_reply_22 rfl) (rz_cons (rz_iald G d_Ca_reply_23) (rz_cons (rz_goto (npc := 0) G d_Ca_reply_24 (by decide)) rz_nil)))))))))))))
  | 1 => (rz_cons (rz_iconst G d_Ca_reply_27 (by decide)) (rz_fall rfl))
  | 2 => (rz_cons (rz_iret (npc := 0) (fun _ => rfl) d_Ca_reply_28) rz_nil)
  | _ + 3 => rz_nil
set_option maxRecDepth 100000 in
set_option maxHeartbeats 4000000 in
theorem bd_Ca_reply : ∀ (Y : Nat → rz_K) (P : rz_P), (∀ b ls st μ, rz_ex P Y (bk_Ca_reply b) ls st μ → Y b ls st μ) → ∀ As μ, C_Ca_reply As μ P → Y 0 (rz_pad 2 (rz_ent As)) [] μ := by
  intro Y P hY As μ hC
  obtain ⟨k, rfl, h36, hC⟩ := hC
  refine hY 0 _ _ _ (And.intro (fun h => hY 1 _ _ _ (hY 2 _ _ _ (rzT (fun z => P (some (.int z)) μ) h hC))) (fun h0 => ?_))
  have hC := rzF (fun z => P (some (.int z)) μ) h0 hC
  refine And.intro (fun h => hY 1 _ _ _ (hY 2 _ _ _ (rzT (fun z => P (some (.int z)) μ) h hC))) (fun h => ?_)
  have hC := rzF (fun z => P (some (.int z)) μ) h hC
  exact And.intro (vi_lt (m := 36) (Int32.not_lt.mp h0) (Int32.lt_of_lt_of_le (Int32.not_le.mp h) h36)) (hY 2 _ _ _ hC)
theorem m_Ca_reply (E : rz_E) : rz_MI SH CL E y_Ca_reply 2 (Cond.code y_Ca_reply c_Ca_reply 2 (some .int) :: rz_tbl) ({ frames := 0, cells := 0, slots := 0, locals := 0 }) C_Ca_reply := rz_metI (by decide) rfl (fun X _ G => sd_Ca_reply X G) bd_Ca_reply
theorem cd_Ca_reply : rz_Cd rz_tbl y_Ca_reply c_Ca_reply 2 (some .int) (Cond.code y_Ca_reply c_Ca_reply 2 (some .int) :: rz_tbl) 1 ({ frames := 0, cells := 0, slots := 0, locals := 0 }) := ⟨rz_good wd_593, ⟨_, rfl⟩, wd_40, by decide +kernel, rfl, rfl⟩
def v_stored (f k : Int32) (μ : rz_M) : Int32 := if p_ho μ f k then μ 13 (f * 24 + k).toNatClampNeg else -1
def C_Ca_stored : rz_C := fun As μ P => ∃ f k : Int32, As = [.ref 0, .int f, .int k] ∧ μ 7 6 ≤ 8 ∧ (p_ho μ f k → ¬ 24 ≤ k) ∧ P (some (.int (v_stored f k μ))) μ
def bk_Ca_stored : Nat → List rz_T := fun b => match b with
  | 0 => [tz_aload 0, tz_get SH 6 2, tz_get SH 4 0, tz_iload 1, tz_iload 2, tz_cv SH 2 2 3 C_Fi_hasOctet, tz_if_eq 1, tz_aload 0, tz_get SH 6 2, tz_get SH 4 0, tz_iload 1, tz_iload 2, tz_cv SH 2 2 3 C_Fi_octet, tz_goto 2]
  | 1 => [tz_iconst (-1), tz_fall 2]
  | 2 => [tz_iret]
  | _ => []
def bp_Ca_stored : Nat → Nat := fun b => match b with
  | 0 => 0
  | 1 => 30
  | 2 => 31
  | _ => 0
set_option maxRecDepth 100000 in
set_option maxHeartbeats 4000000 in
theorem sd_Ca_stored (X : rz_X) (G : rz_Cx CL X c_Ca_stored 3 rz_tbl R_Ca ({ frames := 2, cells := 0, slots := 0, locals := 44 })) : ∀ b, rz_SB SH CL X bp_Ca_stored (rz_RI SH CL X c_Ca_stored (fun v => narrow .int (.int v) = .int v)) (bk_Ca_stored b) (bp_Ca_stored b) := fun b => match b with
  | 0 => (rz_cons (rz_aload_n G d_Ca_stored_0 rfl) (rz_cons (rz_get G rfl in_Ca (by decide) wd_260 d_Ca_stored_1) (rz_cons (rz_getN G rfl in_Me (by decide) wn_15 d_Ca_stored_4) (rz_cons (rz_iload_n G d_Ca_stored_7 rfl) (rz_cons (rz_iload_n G d_Ca_stored_8 rfl) (rz_cons (rz_cvi G (m_Fi_hasOctet X.1) cd_Fi_hasOctet wd_598 wd_487 wd_488 rfl rfl (by decide) d_Ca_stored_9) (rz_cons (rz_if_eq G d_Ca_stored_12 (by decide)) (rz_cons (rz_aload_n G d_Ca_stored_15 rfl) (rz_cons (rz_get G rfl in_Ca (by decide) wd_260 d_Ca_stored_16) (rz_cons (rz_getN G rfl in_Me (by decide) wn_15 d_Ca_stored_19) (rz_cons (rz_iload_n G d_Ca_stored_22 rfl) (rz_cons (rz_iload_n G d_Ca_stored_23 rfl) (rz_cons (rz_cvi G (m_Fi_octet X.1) cd_Fi_octet wd_599 wd_494 wd_495 rfl rfl (by decide) d_Ca_stored_24) (rz_cons (rz_goto (npc := 0) G d_Ca_stored_27 (by decide)) rz_nil))))))))))))))
  | 1 => (rz_cons (rz_iconst G d_Ca_stored_30 (by decide)) (rz_fall rfl))
  | 2 => (rz_cons (rz_iret (npc := 0) (fun _ => rfl) d_Ca_stored_31) rz_nil)
  | _ + 3 => rz_nil
set_option maxRecDepth 100000 in
set_option maxHeartbeats 4000000 in
theorem bd_Ca_stored : ∀ (Y : Nat → rz_K) (P : rz_P), (∀ b ls st μ, rz_ex P Y (bk_Ca_stored b) ls st μ → Y b ls st μ) → ∀ As μ, C_Ca_stored As μ P → Y 0 (rz_pad 3 (rz_ent As)) [] μ := by
  intro Y P hY As μ hC
  obtain ⟨f, k, rfl, h8, h24, hC⟩ := hC
  refine hY 0 _ _ _ ⟨_, _, rfl, h8, And.intro (fun h => hY 1 _ _ _ (hY 2 _ _ _ (rzF (fun z => P (some (.int z)) μ) (b2_eq h) hC))) (fun h => ?_)⟩
  have hq := b2_ne h
  exact ⟨_, _, rfl, h8, hq, h24 hq, hY 2 _ _ _ (rzT (fun z => P (some (.int z)) μ) hq hC)⟩
theorem m_Ca_stored (E : rz_E) : rz_MI SH CL E y_Ca_stored 3 (Cond.code y_Ca_stored c_Ca_stored 3 (some .int) :: rz_tbl) ({ frames := 2, cells := 0, slots := 0, locals := 44 }) C_Ca_stored := rz_metI (by decide) rfl (fun X _ G => sd_Ca_stored X G) bd_Ca_stored
theorem cd_Ca_stored : rz_Cd rz_tbl y_Ca_stored c_Ca_stored 3 (some .int) (Cond.code y_Ca_stored c_Ca_stored 3 (some .int) :: rz_tbl) 2 ({ frames := 2, cells := 0, slots := 0, locals := 44 }) := ⟨rz_good wd_597, ⟨_, rfl⟩, wd_40, by decide +kernel, rfl, rfl⟩
def v_sw (x : Int32) (μ : rz_M) : Int32 := if x = 8 then (if μ 5 3 = 0 then 0 else 1) else if x = 9 then μ 5 4 else if x = 10 then μ 5 5 else if x = 11 then μ 1 6 else if x = 12 then μ 1 7 else if x = 13 then μ 1 8 else if x = 14 then μ 15 1 else if x = 15 then μ 17 1 - μ 17 2 else -1
def C_Ca_stateWhileOn : rz_C := fun As μ P => ∃ x : Int32, As = [.ref 0, .int x] ∧ P (some (.int (v_sw x μ))) μ
def bk_Ca_stateWhileOn : Nat → List rz_T := fun b => match b with
  | 0 => [tz_iload 1, tz_sw [(8, 1), (9, 4), (10, 5), (11, 6), (12, 7), (13, 8), (14, 9), (15, 10)] 11]
  | 1 => [tz_aload 0, tz_get SH 6 1, tz_get SH 5 3, tz_if_eq 2, tz_iconst 1, tz_goto 3]
  | 2 => [tz_iconst 0, tz_fall 3]
  | 3 => [tz_iret]
  | 4 => [tz_aload 0, tz_get SH 6 1, tz_get SH 5 4, tz_iret]
  | 5 => [tz_aload 0, tz_get SH 6 1, tz_get SH 5 5, tz_iret]
  | 6 => [tz_aload 0, tz_get SH 6 0, tz_get SH 3 6, tz_iret]
  | 7 => [tz_aload 0, tz_get SH 6 0, tz_get SH 3 7, tz_iret]
  | 8 => [tz_aload 0, tz_get SH 6 0, tz_get SH 3 8, tz_iret]
  | 9 => [tz_aload 0, tz_get SH 6 1, tz_get SH 5 1, tz_get SH 1 1, tz_iret]
  | 10 => [tz_aload 0, tz_get SH 6 1, tz_get SH 5 2, tz_cv SH 0 0 1 C_An_left, tz_iret]
  | 11 => [tz_iconst (-1), tz_iret]
  | _ => []
def bp_Ca_stateWhileOn : Nat → Nat := fun b => match b with
  | 0 => 0
  | 1 => 48
  | 2 => 62
  | 3 => 63
  | 4 => 64
  | 5 => 72
  | 6 => 80
  | 7 => 88
  | 8 => 96
  | 9 => 104
  | 10 => 115
  | 11 => 126
  | _ => 0
set_option maxRecDepth 100000 in
set_option maxHeartbeats 4000000 in
theorem sd_Ca_stateWhileOn (X : rz_X) (G : rz_Cx CL X c_Ca_stateWhileOn 2 rz_tbl R_Ca ({ frames := 1, cells := 0, slots := 0, locals := 20 })) : ∀ b, rz_SB SH CL X bp_Ca_stateWhileOn (rz_RI SH CL X c_Ca_stateWhileOn (fun v => narrow .int (.int v) = .int v)) (bk_Ca_stateWhileOn b) (bp_Ca_stateWhileOn b) := fun b => match b with
  | 0 => (rz_cons (rz_iload_n G d_Ca_stateWhileOn_0 rfl) (rz_cons (rz_table (npc := 0) G d_Ca_stateWhileOn_1 (by decide) (by decide) (by decide +kernel) (by decide) (by decide +kernel)) rz_nil))
  | 1 => (rz_cons (rz_aload_n G d_Ca_stateWhileOn_48 rfl) (rz_cons (rz_get G rfl in_Ca (by decide) wd_259 d_Ca_stateWhileOn_49) (rz_cons (rz_getN G rfl in_Wo (by decide) wn_32 d_Ca_stateWhileOn_52) (rz_cons (rz_if_eq G d_Ca_stateWhileOn_55 (by decide)) (rz_cons (rz_iconst G d_Ca_stateWhileOn_58 (by decide)) (rz_cons (rz_goto (npc := 0) G d_Ca_stateWhileOn_59 (by decide)) rz_nil))))))
  | 2 => (rz_cons (rz_iconst G d_Ca_stateWhileOn_62 (by decide)) (rz_fall rfl))
  | 3 => (rz_cons (rz_iret (npc := 0) (fun _ => rfl) d_Ca_stateWhileOn_63) rz_nil)
  | 4 => (rz_cons (rz_aload_n G d_Ca_stateWhileOn_64 rfl) (rz_cons (rz_get G rfl in_Ca (by decide) wd_259 d_Ca_stateWhileOn_65) (rz_cons (rz_getN G rfl in_Wo (by decide) wn_33 d_Ca_stateWhileOn_68) (rz_cons (rz_iret (npc := 0) (fun _ => rfl) d_Ca_stateWhileOn_71) rz_nil))))
  | 5 => (rz_cons (rz_aload_n G d_Ca_stateWhileOn_72 rfl) (rz_cons (rz_get G rfl in_Ca (by decide) wd_259 d_Ca_stateWhileOn_73) (rz_cons (rz_getN G rfl in_Wo (by decide) wn_34 d_Ca_stateWhileOn_76) (rz_cons (rz_iret (npc := 0) (fun _ => rfl) d_Ca_stateWhileOn_79) rz_nil))))
  | 6 => (rz_cons (rz_aload_n G d_Ca_stateWhileOn_80 rfl) (rz_cons (rz_get G rfl in_Ca (by decide) wd_258 d_Ca_stateWhileOn_81) (rz_cons (rz_getN G rfl in_Li (by decide) wn_4 d_Ca_stateWhileOn_84) (rz_cons (rz_iret (npc := 0) (fun _ => rfl) d_Ca_stateWhileOn_87) rz_nil))))
  | 7 => (rz_cons (rz_aload_n G d_Ca_stateWhileOn_88 rfl) (rz_cons (rz_get G rfl in_Ca (by decide) wd_258 d_Ca_stateWhileOn_89) (rz_cons (rz_getN G rfl in_Li (by decide) wn_5 d_Ca_stateWhileOn_92) (rz_cons (rz_iret (npc := 0) (fun _ => rfl) d_Ca_stateWhileOn_95) rz_nil))))
  | 8 => (rz_cons (rz_aload_n G d_Ca_stateWhileOn_96 rfl) (rz_cons (rz_get G rfl in_Ca (by decide) wd_258 d_Ca_stateWhileOn_97) (rz_cons (rz_getN G rfl in_Li (by decide) wn_6 d_Ca_stateWhileOn_100) (rz_cons (rz_iret (npc := 0) (fun _ => rfl) d_Ca_stateWhileOn_103) rz_nil))))
  | 9 => (rz_cons (rz_aload_n G d_Ca_stateWhileOn_104 rfl) (rz_cons (rz_get G rfl in_Ca (by decide) wd_259 d_Ca_stateWhileOn_105) (rz_cons (rz_getN G rfl in_Wo (by decide) wn_30 d_Ca_stateWhileOn_108) (rz_cons (rz_getN G rfl in_Co (by decide) wn_25 d_Ca_stateWhileOn_111) (rz_cons (rz_iret (npc := 0) (fun _ => rfl) d_Ca_stateWhileOn_114) rz_nil)))))
  | 10 => (rz_cons (rz_aload_n G d_Ca_stateWhileOn_115 rfl) (rz_cons (rz_get G rfl in_Ca (by decide) wd_259 d_Ca_stateWhileOn_116) (rz_cons (rz_getN G rfl in_Wo (by decide) wn_31 d_Ca_stateWhileOn_119) (rz_cons (rz_cvi G (m_An_left X.1) cd_An_left wd_562 wd_543 wd_544 rfl rfl (by decide) d_Ca_stateWhileOn_122) (rz_cons (rz_iret (npc := 0) (fun _ => rfl) d_Ca_stateWhileOn_125) rz_nil)))))
  | 11 => (rz_cons (rz_iconst G d_Ca_stateWhileOn_126 (by decide)) (rz_cons (rz_iret (npc := 0) (fun _ => rfl) d_Ca_stateWhileOn_127) rz_nil))
  | _ + 12 => rz_nil
set_option maxRecDepth 100000 in
set_option maxHeartbeats 4000000 in
theorem bd_Ca_stateWhileOn : ∀ (Y : Nat → rz_K) (P : rz_P), (∀ b ls st μ, rz_ex P Y (bk_Ca_stateWhileOn b) ls st μ → Y b ls st μ) → ∀ As μ, C_Ca_stateWhileOn As μ P → Y 0 (rz_pad 2 (rz_ent As)) [] μ := by
  intro Y P hY As μ hC
  obtain ⟨x, rfl, hC⟩ := hC
  refine hY 0 _ _ _ (And.intro (fun h => ?_) (fun h => ?_))
  · have hC := rzT (fun z => P (some (.int z)) μ) h hC
    exact hY 1 _ _ _ (And.intro (fun h => hY 2 _ _ _ (hY 3 _ _ _ (rzT (fun z => P (some (.int z)) μ) h hC))) (fun h => hY 3 _ _ _ (rzF (fun z => P (some (.int z)) μ) h hC)))
  have hC := rzF (fun z => P (some (.int z)) μ) h hC
  refine And.intro (fun h => hY 4 _ _ _ (rzT (fun z => P (some (.int z)) μ) h hC)) (fun h => ?_)
  have hC := rzF (fun z => P (some (.int z)) μ) h hC
  refine And.intro (fun h => hY 5 _ _ _ (rzT (fun z => P (some (.int z)) μ) h hC)) (fun h => ?_)
  have hC := rzF (fun z => P (some (.int z)) μ) h hC
  refine And.intro (fun h => hY 6 _ _ _ (rzT (fun z => P (some (.int z)) μ) h hC)) (fun h => ?_)
  have hC := rzF (fun z => P (some (.int z)) μ) h hC
  refine And.intro (fun h => hY 7 _ _ _ (rzT (fun z => P (some (.int z)) μ) h hC)) (fun h => ?_)
  have hC := rzF (fun z => P (some (.int z)) μ) h hC
  refine And.intro (fun h => hY 8 _ _ _ (rzT (fun z => P (some (.int z)) μ) h hC)) (fun h => ?_)
  have hC := rzF (fun z => P (some (.int z)) μ) h hC
  refine And.intro (fun h => hY 9 _ _ _ (rzT (fun z => P (some (.int z)) μ) h hC)) (fun h => ?_)
  have hC := rzF (fun z => P (some (.int z)) μ) h hC
  refine And.intro (fun h => hY 10 _ _ _ (And.intro rfl (rzT (fun z => P (some (.int z)) μ) h hC))) (fun h => ?_)
  exact hY 11 _ _ _ (rzF (fun z => P (some (.int z)) μ) h hC)
theorem m_Ca_stateWhileOn (E : rz_E) : rz_MI SH CL E y_Ca_stateWhileOn 2 (Cond.code y_Ca_stateWhileOn c_Ca_stateWhileOn 2 (some .int) :: rz_tbl) ({ frames := 1, cells := 0, slots := 0, locals := 20 }) C_Ca_stateWhileOn := rz_metI (by decide) rfl (fun X _ G => sd_Ca_stateWhileOn X G) bd_Ca_stateWhileOn
theorem cd_Ca_stateWhileOn : rz_Cd rz_tbl y_Ca_stateWhileOn c_Ca_stateWhileOn 2 (some .int) (Cond.code y_Ca_stateWhileOn c_Ca_stateWhileOn 2 (some .int) :: rz_tbl) 1 ({ frames := 1, cells := 0, slots := 0, locals := 20 }) := ⟨rz_good wd_607, ⟨_, rfl⟩, wd_40, by decide +kernel, rfl, rfl⟩
def v_state (x : Int32) (μ : rz_M) : Int32 := if x = 0 then (if μ 0 3 = 0 then 0 else 1) else if x = 1 then μ 7 6 else if x = 2 then μ 6 7 else if x = 3 then μ 6 6 else if x = 4 then (if μ 6 5 = 0 then 0 else 1) else if x = 5 then μ 6 8 else if x = 6 then μ 6 9 else if x = 7 then μ 0 4 else if μ 0 3 = 0 then -1 else v_sw x μ
def C_Ca_state : rz_C := fun As μ P => ∃ x : Int32, As = [.ref 0, .int x] ∧ P (some (.int (v_state x μ))) μ
def bk_Ca_state : Nat → List rz_T := fun b => match b with
  | 0 => [tz_iload 1, tz_sw [(0, 1), (1, 4), (2, 5), (3, 6), (4, 7), (5, 10), (6, 11), (7, 12)] 13]
  | 1 => [tz_aload 0, tz_get SH 6 3, tz_if_eq 2, tz_iconst 1, tz_goto 3]
  | 2 => [tz_iconst 0, tz_fall 3]
  | 3 => [tz_iret]
  | 4 => [tz_aload 0, tz_get SH 6 2, tz_get SH 4 0, tz_get SH 2 6, tz_iret]
  | 5 => [tz_aload 0, tz_get SH 6 2, tz_get SH 4 7, tz_iret]
  | 6 => [tz_aload 0, tz_get SH 6 2, tz_get SH 4 6, tz_iret]
  | 7 => [tz_aload 0, tz_get SH 6 2, tz_get SH 4 5, tz_if_eq 8, tz_iconst 1, tz_goto 9]
  | 8 => [tz_iconst 0, tz_fall 9]
  | 9 => [tz_iret]
  | 10 => [tz_aload 0, tz_get SH 6 2, tz_get SH 4 8, tz_iret]
  | 11 => [tz_aload 0, tz_get SH 6 2, tz_get SH 4 9, tz_iret]
  | 12 => [tz_aload 0, tz_get SH 6 4, tz_iret]
  | 13 => [tz_aload 0, tz_get SH 6 3, tz_if_eq 14, tz_aload 0, tz_iload 1, tz_cv SH 1 6 2 C_Ca_stateWhileOn, tz_goto 15]
  | 14 => [tz_iconst (-1), tz_fall 15]
  | 15 => [tz_iret]
  | _ => []
def bp_Ca_state : Nat → Nat := fun b => match b with
  | 0 => 0
  | 1 => 48
  | 2 => 59
  | 3 => 60
  | 4 => 61
  | 5 => 72
  | 6 => 80
  | 7 => 88
  | 8 => 102
  | 9 => 103
  | 10 => 104
  | 11 => 112
  | 12 => 120
  | 13 => 125
  | 14 => 140
  | 15 => 141
  | _ => 0
set_option maxRecDepth 100000 in
set_option maxHeartbeats 4000000 in
theorem sd_Ca_state (X : rz_X) (G : rz_Cx CL X c_Ca_state 2 rz_tbl R_Ca ({ frames := 2, cells := 0, slots := 0, locals := 41 })) : ∀ b, rz_SB SH CL X bp_Ca_state (rz_RI SH CL X c_Ca_state (fun v => narrow .int (.int v) = .int v)) (bk_Ca_state b) (bp_Ca_state b) := fun b => match b with
  | 0 => (rz_cons (rz_iload_n G d_Ca_state_0 rfl) (rz_cons (rz_table (npc := 0) G d_Ca_state_1 (by decide) (by decide) (by decide +kernel) (by decide) (by decide +kernel)) rz_nil))
  | 1 => (rz_cons (rz_aload_n G d_Ca_state_48 rfl) (rz_cons (rz_get G rfl in_Ca (by decide) wd_261 d_Ca_state_49) (rz_cons (rz_if_eq G d_Ca_state_52 (by decide)) (rz_cons (rz_iconst G d_Ca_state_55 (by decide)) (rz_cons (rz_goto (npc := 0) G d_Ca_state_56 (by decide)) rz_nil)))))
  | 2 => (rz_cons (rz_iconst G d_Ca_state_59 (by decide)) (rz_fall rfl))
  | 3 => (rz_cons (rz_iret (npc := 0) (fun _ => rfl) d_Ca_state_60) rz_nil)
  | 4 => (rz_cons (rz_aload_n G d_Ca_state_61 rfl) (rz_cons (rz_get G rfl in_Ca (by decide) wd_260 d_Ca_state_62) (rz_cons (rz_getN G rfl in_Me (by decide) wn_15 d_Ca_state_65) (rz_cons (rz_getN G rfl in_Fi (by decide) wn_14 d_Ca_state_68) (rz_cons (rz_iret (npc := 0) (fun _ => rfl) d_Ca_state_71) rz_nil)))))
  | 5 => (rz_cons (rz_aload_n G d_Ca_state_72 rfl) (rz_cons (rz_get G rfl in_Ca (by decide) wd_260 d_Ca_state_73) (rz_cons (rz_getN G rfl in_Me (by decide) wn_20 d_Ca_state_76) (rz_cons (rz_iret (npc := 0) (fun _ => rfl) d_Ca_state_79) rz_nil))))
  | 6 => (rz_cons (rz_aload_n G d_Ca_state_80 rfl) (rz_cons (rz_get G rfl in_Ca (by decide) wd_260 d_Ca_state_81) (rz_cons (rz_getN G rfl in_Me (by decide) wn_18 d_Ca_state_84) (rz_cons (rz_iret (npc := 0) (fun _ => rfl) d_Ca_state_87) rz_nil))))
  | 7 => (rz_cons (rz_aload_n G d_Ca_state_88 rfl) (rz_cons (rz_get G rfl in_Ca (by decide) wd_260 d_Ca_state_89) (rz_cons (rz_getN G rfl in_Me (by decide) wn_17 d_Ca_state_92) (rz_cons (rz_if_eq G d_Ca_state_95 (by decide)) (rz_cons (rz_iconst G d_Ca_state_98 (by decide)) (rz_cons (rz_goto (npc := 0) G d_Ca_state_99 (by decide)) rz_nil))))))
  | 8 => (rz_cons (rz_iconst G d_Ca_state_102 (by decide)) (rz_fall rfl))
  | 9 => (rz_cons (rz_iret (npc := 0) (fun _ => rfl) d_Ca_state_103) rz_nil)
  | 10 => (rz_cons (rz_aload_n G d_Ca_state_104 rfl) (rz_cons (rz_get G rfl in_Ca (by decide) wd_260 d_Ca_state_105) (rz_cons (rz_getN G rfl in_Me (by decide) wn_22 d_Ca_state_108) (rz_cons (rz_iret (npc := 0) (fun _ => rfl) d_Ca_state_111) rz_nil))))
  | 11 => (rz_cons (rz_aload_n G d_Ca_state_112 rfl) (rz_cons (rz_get G rfl in_Ca (by decide) wd_260 d_Ca_state_113) (rz_cons (rz_getN G rfl in_Me (by decide) wn_23 d_Ca_state_116) (rz_cons (rz_iret (npc := 0) (fun _ => rfl) d_Ca_state_119) rz_nil))))
  | 12 => (rz_cons (rz_aload_n G d_Ca_state_120 rfl) (rz_cons (rz_get G rfl in_Ca (by decide) wd_262 d_Ca_state_121) (rz_cons (rz_iret (npc := 0) (fun _ => rfl) d_Ca_state_124) rz_nil)))
  | 13 => (rz_cons (rz_aload_n G d_Ca_state_125 rfl) (rz_cons (rz_get G rfl in_Ca (by decide) wd_261 d_Ca_state_126) (rz_cons (rz_if_eq G d_Ca_state_129 (by decide)) (rz_cons (rz_aload_n G d_Ca_state_132 rfl) (rz_cons (rz_iload_n G d_Ca_state_133 rfl) (rz_cons (rz_cvi G (m_Ca_stateWhileOn X.1) cd_Ca_stateWhileOn wd_604 wd_606 wd_18 rfl rfl (by decide) d_Ca_state_134) (rz_cons (rz_goto (npc := 0) G d_Ca_state_137 (by decide)) rz_nil)))))))
  | 14 => (rz_cons (rz_iconst G d_Ca_state_140 (by decide)) (rz_fall rfl))
  | 15 => (rz_cons (rz_iret (npc := 0) (fun _ => rfl) d_Ca_state_141) rz_nil)
  | _ + 16 => rz_nil
set_option maxRecDepth 100000 in
set_option maxHeartbeats 4000000 in
theorem bd_Ca_state : ∀ (Y : Nat → rz_K) (P : rz_P), (∀ b ls st μ, rz_ex P Y (bk_Ca_state b) ls st μ → Y b ls st μ) → ∀ As μ, C_Ca_state As μ P → Y 0 (rz_pad 2 (rz_ent As)) [] μ := by
  intro Y P hY As μ hC
  obtain ⟨x, rfl, hC⟩ := hC
  refine hY 0 _ _ _ (And.intro (fun h => ?_) (fun h => ?_))
  · have hC := rzT (fun z => P (some (.int z)) μ) h hC
    exact hY 1 _ _ _ (And.intro (fun h => hY 2 _ _ _ (hY 3 _ _ _ (rzT (fun z => P (some (.int z)) μ) h hC))) (fun h => hY 3 _ _ _ (rzF (fun z => P (some (.int z)) μ) h hC)))
  have hC := rzF (fun z => P (some (.int z)) μ) h hC
  refine And.intro (fun h => hY 4 _ _ _ (rzT (fun z => P (some (.int z)) μ) h hC)) (fun h => ?_)
  have hC := rzF (fun z => P (some (.int z)) μ) h hC
  refine And.intro (fun h => hY 5 _ _ _ (rzT (fun z => P (some (.int z)) μ) h hC)) (fun h => ?_)
  have hC := rzF (fun z => P (some (.int z)) μ) h hC
  refine And.intro (fun h => hY 6 _ _ _ (rzT (fun z => P (some (.int z)) μ) h hC)) (fun h => ?_)
  have hC := rzF (fun z => P (some (.int z)) μ) h hC
  refine And.intro (fun h => ?_) (fun h => ?_)
  · have hC := rzT (fun z => P (some (.int z)) μ) h hC
    exact hY 7 _ _ _ (And.intro (fun h => hY 8 _ _ _ (hY 9 _ _ _ (rzT (fun z => P (some (.int z)) μ) h hC))) (fun h => hY 9 _ _ _ (rzF (fun z => P (some (.int z)) μ) h hC)))
  have hC := rzF (fun z => P (some (.int z)) μ) h hC
  refine And.intro (fun h => hY 10 _ _ _ (rzT (fun z => P (some (.int z)) μ) h hC)) (fun h => ?_)
  have hC := rzF (fun z => P (some (.int z)) μ) h hC
  refine And.intro (fun h => hY 11 _ _ _ (rzT (fun z => P (some (.int z)) μ) h hC)) (fun h => ?_)
  have hC := rzF (fun z => P (some (.int z)) μ) h hC
  refine And.intro (fun h => hY 12 _ _ _ (rzT (fun z => P (some (.int z)) μ) h hC)) (fun h => ?_)
  have hC := rzF (fun z => P (some (.int z)) μ) h hC
  refine hY 13 _ _ _ (And.intro (fun h => hY 14 _ _ _ (hY 15 _ _ _ (rzT (fun z => P (some (.int z)) μ) h hC))) (fun h => ⟨_, rfl, hY 15 _ _ _ (rzF (fun z => P (some (.int z)) μ) h hC)⟩))
theorem m_Ca_state (E : rz_E) : rz_MI SH CL E y_Ca_state 2 (Cond.code y_Ca_state c_Ca_state 2 (some .int) :: rz_tbl) ({ frames := 2, cells := 0, slots := 0, locals := 41 }) C_Ca_state := rz_metI (by decide) rfl (fun X _ G => sd_Ca_state X G) bd_Ca_state
theorem cd_Ca_state : rz_Cd rz_tbl y_Ca_state c_Ca_state 2 (some .int) (Cond.code y_Ca_state c_Ca_state 2 (some .int) :: rz_tbl) 1 ({ frames := 2, cells := 0, slots := 0, locals := 41 }) := ⟨rz_good wd_603, ⟨_, rfl⟩, wd_40, by decide +kernel, rfl, rfl⟩
def v_look (f x : Int32) (μ : rz_M) : Int32 := if ¬ f < 0 ∧ ¬ μ 7 6 ≤ f then (if x = 0 then μ 8 f.toNatClampNeg else if x = 1 then μ 9 f.toNatClampNeg else if x = 2 then μ 10 f.toNatClampNeg else if x = 3 then μ 11 f.toNatClampNeg else if x = 4 then μ 12 f.toNatClampNeg else -1) else -1
def C_Ca_look : rz_C := fun As μ P => ∃ f x : Int32, As = [.ref 0, .int f, .int x] ∧ μ 7 6 ≤ 8 ∧ P (some (.int (v_look f x μ))) μ
def bk_Ca_look : Nat → List rz_T := fun b => match b with
  | 0 => [tz_aload 0, tz_get SH 6 2, tz_get SH 4 0, tz_astore 3, tz_aload 3, tz_iload 1, tz_cv SH 1 2 2 C_Fi_has, tz_if_ne 1, tz_iconst (-1), tz_iret]
  | 1 => [tz_iload 2, tz_sw [(0, 2), (1, 3), (2, 4), (3, 5), (4, 6)] 7]
  | 2 => [tz_aload 3, tz_get SH 2 0, tz_iload 1, tz_iald SH, tz_iret]
  | 3 => [tz_aload 3, tz_get SH 2 1, tz_iload 1, tz_iald SH, tz_iret]
  | 4 => [tz_aload 3, tz_get SH 2 2, tz_iload 1, tz_iald SH, tz_iret]
  | 5 => [tz_aload 3, tz_get SH 2 3, tz_iload 1, tz_iald SH, tz_iret]
  | 6 => [tz_aload 3, tz_get SH 2 4, tz_iload 1, tz_iald SH, tz_iret]
  | 7 => [tz_iconst (-1), tz_iret]
  | _ => []
def bp_Ca_look : Nat → Nat := fun b => match b with
  | 0 => 0
  | 1 => 18
  | 2 => 52
  | 3 => 59
  | 4 => 66
  | 5 => 73
  | 6 => 80
  | 7 => 87
  | _ => 0
set_option maxRecDepth 100000 in
set_option maxHeartbeats 4000000 in
theorem sd_Ca_look (X : rz_X) (G : rz_Cx CL X c_Ca_look 4 rz_tbl R_Ca ({ frames := 1, cells := 0, slots := 0, locals := 21 })) : ∀ b, rz_SB SH CL X bp_Ca_look (rz_RI SH CL X c_Ca_look (fun v => narrow .int (.int v) = .int v)) (bk_Ca_look b) (bp_Ca_look b) := fun b => match b with
  | 0 => (rz_cons (rz_aload_n G d_Ca_look_0 rfl) (rz_cons (rz_get G rfl in_Ca (by decide) wd_260 d_Ca_look_1) (rz_cons (rz_getN G rfl in_Me (by decide) wn_15 d_Ca_look_4) (rz_cons (rz_astore_n G d_Ca_look_7 rfl (by decide)) (rz_cons (rz_aload_n G d_Ca_look_8 rfl) (rz_cons (rz_iload_n G d_Ca_look_9 rfl) (rz_cons (rz_cvi G (m_Fi_has X.1) cd_Fi_has wd_612 wd_284 wd_285 rfl rfl (by decide) d_Ca_look_10) (rz_cons (rz_if_ne G d_Ca_look_13 (by decide)) (rz_cons (rz_iconst G d_Ca_look_16 (by decide)) (rz_cons (rz_iret (npc := 0) (fun _ => rfl) d_Ca_look_17) rz_nil))))))))))
  | 1 => (rz_cons (rz_iload_n G d_Ca_look_18 rfl) (rz_cons (rz_table (npc := 0) G d_Ca_look_19 (by decide) (by decide) (by decide +kernel) (by decide) (by decide +kernel)) rz_nil))
  | 2 => (rz_cons (rz_aload_n G d_Ca_look_52 rfl) (rz_cons (rz_getN G rfl in_Fi (by decide) wn_7 d_Ca_look_53) (rz_cons (rz_iload_n G d_Ca_look_56 rfl) (rz_cons (rz_iald G d_Ca_look_57) (rz_cons (rz_iret (npc := 0) (fun _ => rfl) d_Ca_look_58) rz_nil)))))
  | 3 => (rz_cons (rz_aload_n G d_Ca_look_59 rfl) (rz_cons (rz_getN G rfl in_Fi (by decide) wn_9 d_Ca_look_60) (rz_cons (rz_iload_n G d_Ca_look_63 rfl) (rz_cons (rz_iald G d_Ca_look_64) (rz_cons (rz_iret (npc := 0) (fun _ => rfl) d_Ca_look_65) rz_nil)))))
  | 4 => (rz_cons (rz_aload_n G d_Ca_look_66 rfl) (rz_cons (rz_getN G rfl in_Fi (by decide) wn_11 d_Ca_look_67) (rz_cons (rz_iload_n G d_Ca_look_70 rfl) (rz_cons (rz_iald G d_Ca_look_71) (rz_cons (rz_iret (npc := 0) (fun _ => rfl) d_Ca_look_72) rz_nil)))))
  | 5 => (rz_cons (rz_aload_n G d_Ca_look_73 rfl) (rz_cons (rz_getN G rfl in_Fi (by decide) wn_12 d_Ca_look_74) (rz_cons (rz_iload_n G d_Ca_look_77 rfl) (rz_cons (rz_iald G d_Ca_look_78) (rz_cons (rz_iret (npc := 0) (fun _ => rfl) d_Ca_look_79) rz_nil)))))
  | 6 => (rz_cons (rz_aload_n G d_Ca_look_80 rfl) (rz_cons (rz_getN G rfl in_Fi (by decide) wn_13 d_Ca_look_81) (rz_cons (rz_iload_n G d_Ca_look_84 rfl) (rz_cons (rz_iald G d_Ca_look_85) (rz_cons (rz_iret (npc := 0) (fun _ => rfl) d_Ca_look_86) rz_nil)))))
  | 7 => (rz_cons (rz_iconst G d_Ca_look_87 (by decide)) (rz_cons (rz_iret (npc := 0) (fun _ => rfl) d_Ca_look_88) rz_nil))
  | _ + 8 => rz_nil
set_option maxRecDepth 100000 in
set_option maxHeartbeats 4000000 in
theorem bd_Ca_look : ∀ (Y : Nat → rz_K) (P : rz_P), (∀ b ls st μ, rz_ex P Y (bk_Ca_look b) ls st μ → Y b ls st μ) → ∀ As μ, C_Ca_look As μ P → Y 0 (rz_pad 4 (rz_ent As)) [] μ := by
  intro Y P hY As μ hC
  obtain ⟨f, x, rfl, h8, hC⟩ := hC
  refine hY 0 _ _ _ ⟨_, rfl, And.intro (fun h => ?_) (fun h => rzF (fun z => P (some (.int z)) μ) (b2_eq h) hC)⟩
  have hq := b2_ne h
  have hC := rzT (fun z => P (some (.int z)) μ) hq hC
  have hv : vp_in f 8 := vi_lt (m := 8) (Int32.not_lt.mp hq.1) (Int32.lt_of_lt_of_le (Int32.not_le.mp hq.2) h8)
  refine hY 1 _ _ _ (And.intro (fun h => hY 2 _ _ _ (And.intro hv (rzT (fun z => P (some (.int z)) μ) h hC))) (fun h => ?_))
  have hC := rzF (fun z => P (some (.int z)) μ) h hC
  refine And.intro (fun h => hY 3 _ _ _ (And.intro hv (rzT (fun z => P (some (.int z)) μ) h hC))) (fun h => ?_)
  have hC := rzF (fun z => P (some (.int z)) μ) h hC
  refine And.intro (fun h => hY 4 _ _ _ (And.intro hv (rzT (fun z => P (some (.int z)) μ) h hC))) (fun h => ?_)
  have hC := rzF (fun z => P (some (.int z)) μ) h hC
  refine And.intro (fun h => hY 5 _ _ _ (And.intro hv (rzT (fun z => P (some (.int z)) μ) h hC))) (fun h => ?_)
  have hC := rzF (fun z => P (some (.int z)) μ) h hC
  refine And.intro (fun h => hY 6 _ _ _ (And.intro hv (rzT (fun z => P (some (.int z)) μ) h hC))) (fun h => ?_)
  exact hY 7 _ _ _ (rzF (fun z => P (some (.int z)) μ) h hC)
theorem m_Ca_look (E : rz_E) : rz_MI SH CL E y_Ca_look 4 (Cond.code y_Ca_look c_Ca_look 4 (some .int) :: rz_tbl) ({ frames := 1, cells := 0, slots := 0, locals := 21 }) C_Ca_look := rz_metI (by decide) rfl (fun X _ G => sd_Ca_look X G) bd_Ca_look
theorem cd_Ca_look : rz_Cd rz_tbl y_Ca_look c_Ca_look 4 (some .int) (Cond.code y_Ca_look c_Ca_look 4 (some .int) :: rz_tbl) 2 ({ frames := 1, cells := 0, slots := 0, locals := 21 }) := ⟨rz_good wd_611, ⟨_, rfl⟩, wd_40, by decide +kernel, rfl, rfl⟩
