theorem ne_m1 {n : Nat} (h : n < 2147483648) : ¬ nI n = -1 := by
  intro q
  have : (nI n).toInt = (-1 : Int32).toInt := by rw [q]
  rw [nI_toInt h] at this
  have e1 : (-1 : Int32).toInt = -1 := rfl
  omega
theorem f_find_lt {a : rz_M} {d w : Int32} : ∀ (k i : Nat), f_find a d w k i = -1 ∨ ∃ m : Nat, i ≤ m ∧ m < i + k ∧ f_find a d w k i = nI m
  | 0, i => Or.inl rfl
  | k + 1, i => by
    rw [f_find]
    split
    · exact Or.inr ⟨i, by omega, by omega, rfl⟩
    · rcases f_find_lt k (i + 1) with q | ⟨m, h1, h2, h3⟩
      · exact Or.inl q
      · exact Or.inr ⟨m, by omega, by omega, h3⟩
theorem f_find_m1 {a : rz_M} {d : Int32} : ∀ (k i : Nat), (∀ m, i ≤ m → m < i + k → ¬ a 8 m = -1) → f_find a d (-1) k i = -1
  | 0, i, _ => rfl
  | k + 1, i, h => by
    rw [f_find, if_neg (fun q => h i (by omega) (by omega) q.2)]
    exact f_find_m1 k (i + 1) (fun m h1 h2 => h m (by omega) (by omega))
theorem fi2_ok {a b : rz_M} {x : Int32} {c : Nat} (h : WI zV a b) (hD : DC a) (hc : a 7 6 = nI c) (hc8 : c ≤ 8) (hx : x = -1 ∨ ∃ f : Nat, f < c ∧ x = nI f) : RES (f_fi2 x a) (g_fi2 x b) := by
  have hR := h.2.2
  have e22 : a 10 = b 22 := hR.2 (10, 22) (by decide)
  obtain ⟨c', -, hz, -⟩ := h.1
  unfold f_fi2 g_fi2
  rcases hx with rfl | ⟨f, hf, rfl⟩
  · rw [if_neg (fun q => q rfl), if_neg (by decide)]
    exact RES_same h hD (by decide)
  · have cf : (nI f).toNatClampNeg = f := nI_clamp (by omega)
    obtain ⟨z, hz24, ez⟩ := hz f (by omega)
    rw [if_pos (ne_m1 (by omega)), if_pos (nI_pos' (by omega)), cf, ← e22, ez]
    have hdc : DC a → ∃ d : Nat, d < c ∧ a 5 4 = nI d := by
      rintro ⟨c2, h1, h2, ⟨d, hd, ed⟩, -⟩
      rw [hc] at h1
      have := (nI_eq (by omega) (by omega)).mp h1
      exact ⟨d, by omega, ed⟩
    refine R2 RES ?_ (fun _ => ?_) (fun _ => ?_)
    · constructor
      · intro q
        rw [q.2.2]; decide
      · intro q
        refine ⟨nI_pos (by omega), by rw [hc]; exact nI_ge hf (by omega), ?_⟩
        have := (nI_leI (b := 0) (by omega) (by omega)).mp q
        have : z = 0 := by omega
        rw [this]; rfl
    · refine Or.inl ⟨(by decide : ¬ (36864 : Int32) = -1), rfl, ⟨IPa_up (k := 5) (by decide) (IPa_up (k := 5) (by decide) h.1), h.2.1, ?_⟩, ?_⟩
      · show RL zV (rz_up (rz_up a 5 4 (nI f)) 5 5 (-1)) (rz_up (rz_up b 19 21 (-1)) 19 20 (nI f))
        rw [rz_up_comm (k := 19) (k2 := 19) (j := 21) (j2 := 20) (Or.inr (by decide))]
        exact RL_up okV (RL_up okV hR (by decide) rfl) (by decide) rfl
      · exact ⟨c, hc, hc8, ⟨f, hf, rfl⟩, Or.inl rfl⟩
    · refine Or.inl ⟨(by decide : ¬ (36864 : Int32) = -1), rfl, ⟨IPa_up (k := 5) (by decide) h.1, h.2.1, RL_up okV hR (by decide) rfl⟩, ?_⟩
      exact ⟨c, hc, hc8, hdc hD, Or.inr ⟨f, hf, rfl⟩⟩
theorem find_ok {a b : rz_M} {d : Int32} {n : Nat} (h : WI zV a b) (hD : DC a) (ho : OCT (a 16)) (hd : a 15 3 = d) (hn : a 15 3 = nI n) (hn32 : n ≤ 32) : RES (f_fi a) (g_fi (b 28 2) (b 28 3) d b) := by
  have hR := h.2.2
  have e16 : a 16 = b 28 := hR.2 (16, 28) (by decide)
  have e8 : a 8 = b 20 := hR.2 (8, 20) (by decide)
  have e9 : a 9 = b 21 := hR.2 (9, 21) (by decide)
  have e54 : a 5 4 = b 19 20 := vV hR (by decide)
  have e76 : a 7 6 = b 19 6 := vV hR (by decide)
  obtain ⟨c, hc, hc8, ⟨dd, hdd, edd⟩, -⟩ := id hD
  obtain ⟨c', ⟨hc', c1', c8'⟩, -, -, -, ⟨n0, hnm⟩, ⟨p0, hpa⟩⟩ := h.1
  have ecc : c' = c := by rw [hc] at hc'; exact ((nI_eq (by omega) (by omega)).mp hc').symm
  subst ecc
  have S : ∀ {s : Int32}, ¬ s = -1 → RES (s, a) (s, b) := fun hs => RES_same h hD hs
  have cc : (a 7 6).toNatClampNeg = c' := nc hc (by omega)
  subst hd
  unfold f_fi g_fi
  rw [← e16]
  by_cases h1 : a 16 2 = 0
  · rw [if_pos h1, if_pos (Or.inl h1)]
    refine R2 RES Iff.rfl (fun _ => R2 RES ?_ (fun _ => ?_) (fun _ => S (by decide))) (fun _ => S (by decide))
    · constructor
      · intro q; exact Or.inl ⟨h1, q⟩
      · rintro (q | q)
        · exact q.2
        · exact absurd h1 q.1
    · have enm : v_nm a = g_nm b := by
        obtain ⟨x, hx, ex⟩ := ho 5
        obtain ⟨y, hy, ey⟩ := ho 6
        unfold v_nm g_nm
        rw [← e16, ex, ey]
        exact sh8 hx hy
      have ef : v_fnd a = g_fnd (a 16 2) b := by
        have eg : g_fnd (a 16 2) b = g_lp b (g_nm b) (b 19 6).toNatClampNeg (-1) := by
          unfold g_fnd
          rw [h1, if_neg (show ¬ ¬ (0 : Int32) = 0 from fun q => q rfl), if_pos (show ¬ (0 : Int32) = 3 by decide)]
        rw [eg]
        unfold v_fnd
        rw [← e76, cc, lp_find e8 e9 e54 _ _ (by omega), ← enm, n0]
        by_cases hw : v_nm a = 16128
        · rw [if_pos hw, if_pos ⟨hw.symm, c1'⟩]
        · rw [if_neg hw, if_neg (fun q => hw q.1.symm)]
          by_cases hf : f_find a (a 5 4) (v_nm a) (c' - 1) 1 = -1
          · rw [if_pos hf, hf]
          · rw [if_neg hf]
      rw [← ef]
      refine fi2_ok h hD hc hc8 ?_
      unfold v_fnd
      split
      · exact Or.inr ⟨0, by omega, rfl⟩
      · rw [cc]
        rcases f_find_lt (a := a) (d := a 5 4) (w := v_nm a) (c' - 1) 1 with q | ⟨m, m1, m2, m3⟩
        · exact Or.inl q
        · exact Or.inr ⟨m, by omega, m3⟩
  · rw [if_neg h1]
    by_cases h3 : a 16 2 = 3
    · rw [if_neg (fun q => q h3), if_pos (Or.inr h3)]
      refine R2 RES Iff.rfl (fun _ => R2 RES ?_ (fun _ => ?_) (fun _ => S (by decide))) (fun _ => S (by decide))
      · rw [hn]
        constructor
        · intro q
          right
          exact ⟨h1, by rw [q]; decide⟩
        · rintro (q | q)
          · exact absurd q.1 h1
          · have := (nI_leI (b := 0) (by omega) (by omega)).mp q.2
            have : n = 0 := by omega
            rw [this]; rfl
      · have cdd : (a 5 4).toNatClampNeg = dd := nc edd (by omega)
        have epar : v_par a = a 9 dd := by
          unfold v_par
          rw [if_pos ⟨by rw [edd]; exact nI_pos (by omega), by rw [hc, edd]; exact nI_ge hdd (by omega)⟩, cdd]
        have ef : v_par a = g_fnd (a 16 2) b := by
          have eg : g_fnd (a 16 2) b = g_lp b (-1) (b 19 6).toNatClampNeg (b 21 (b 19 20).toNatClampNeg) := by
            unfold g_fnd
            rw [h3, if_pos (show ¬ (3 : Int32) = 0 by decide), if_neg (show ¬ ¬ (3 : Int32) = 3 from fun q => q rfl)]
          rw [eg, ← e76, cc, lp_find e8 e9 e54 _ _ (by omega), if_neg (show ¬ (a 8 0 = -1 ∧ 1 ≤ c') from fun q => absurd (n0.symm.trans q.1) (by decide)), if_pos, ← e9, ← e54, cdd, epar]
          exact f_find_m1 _ _ (fun m m1 m2 => by
            obtain ⟨k, hk, ek⟩ := hnm m (by omega)
            rw [ek]; exact ne_m1 (by omega))
        rw [← ef]
        refine fi2_ok h hD hc hc8 ?_
        rw [epar]
        rcases Nat.eq_zero_or_pos dd with q | q
        · rw [q]; exact Or.inl p0
        · obtain ⟨m, hm, em⟩ := hpa dd (by omega) q
          exact Or.inr ⟨m, hm, em⟩
    · rw [if_pos h3, if_neg (fun q => q.elim h1 h3)]
      exact S (by decide)
/-- how both read the COMMAND's OCTETS -/
theorem parse_ok {a b : rz_M} (hR : RL zV a b) (hJ : JC a) : (p_ok a ↔ e_ok b) ∧ (p_ok a → q_dl a = e_d b ∧ ((q_ex a = -1 ∧ e_x b < 0) ∨ (∃ e : Nat, e ≤ 255 ∧ e_x b = nI e ∧ q_ex a = g_exn (e_x b)))) := by
  have e16 : a 16 = b 28 := hR.2 (16, 28) (by decide)
  have e151 : a 15 1 = b 19 31 := vV hR (by decide)
  have e152 : a 15 2 = b 19 19 := vV hR (by decide)
  obtain ⟨⟨l, hl40, el⟩, ho⟩ := hJ
  obtain ⟨o, ho255, eo⟩ := ho 4
  have gx : ∀ v : Int32, (∃ e : Nat, e ≤ 255 ∧ v = nI e) → (if ¬ v = 0 then v else 32) = g_exn v := fun v _ => rfl
  unfold p_ok e_ok e_ok5
  rw [← e151, ← e152, ← e16]
  by_cases h2 : a 15 2 = 0
  · by_cases h4 : 4 ≤ a 15 1
    · have hl4 : 4 ≤ l := by rw [el] at h4; exact (nI_leI (a := 4) (by omega) (by omega)).mp h4
      by_cases h5 : a 15 1 ≤ 5
      · have hl5 : l ≤ 5 := by rw [el] at h5; exact (nI_leI (b := 5) (by omega) (by omega)).mp h5
        have edl : q_dl a = 0 := by unfold q_dl; rw [if_neg (fun q => q h2), if_pos h4, if_pos h5]
        have een : q_en a = 4 := by unfold q_en; rw [edl, if_pos (by decide)]
        have hok : a 15 2 = 0 ∧ 4 ≤ a 15 1 ∧ ¬ 32 < q_dl a ∧ ¬ a 15 1 < q_en a ∧ a 15 1 ≤ q_en a + 1 := by
          rw [edl, een]
          exact ⟨h2, h4, by decide, Int32.not_lt.mpr h4, h5⟩
        refine ⟨⟨fun _ => ⟨h2, h4, Or.inl h5⟩, fun _ => hok⟩, fun _ => ⟨?_, ?_⟩⟩
        · rw [edl]; unfold e_d; rw [← e151, if_pos h5]
        · unfold q_ex e_x
          rw [← e151, ← e16]
          have hl : l = 4 ∨ l = 5 := by omega
          rcases hl with rfl | rfl
          · left
            refine ⟨if_neg (fun q => q.2 (by rw [el, een]; decide)), ?_⟩
            rw [el, if_neg (by decide), if_pos (by decide)]
            decide
          · right
            have ei : (q_en a).toNatClampNeg = 4 := by rw [een]; rfl
            rw [if_pos (show p_ok a ∧ ¬ a 15 1 ≤ q_en a from ⟨hok, by rw [el, een]; decide⟩), if_pos (show a 15 1 = 5 from el), ei]
            exact ⟨o, ho255, eo, rfl⟩
      · have hl5 : 5 < l := by
          rw [el] at h5
          rcases Nat.lt_or_ge 5 l with q | q
          · exact q
          · exact absurd (nI_le (b := 5) q (by omega)) h5
        have edl : q_dl a = nI o := by unfold q_dl; rw [if_neg (fun q => q h2), if_pos h4, if_neg h5, eo]
        have eed : e_d b = nI o := by unfold e_d; rw [← e151, if_neg h5, ← e16, eo]
        by_cases ho0 : o = 0
        · have een : q_en a = 4 := by unfold q_en; rw [edl, ho0, if_pos (by decide)]
          have n1 : ¬ (a 15 2 = 0 ∧ 4 ≤ a 15 1 ∧ ¬ 32 < q_dl a ∧ ¬ a 15 1 < q_en a ∧ a 15 1 ≤ q_en a + 1) := by
            intro q
            have := q.2.2.2.2
            rw [een] at this
            exact h5 this
          have n2 : ¬ (a 15 2 = 0 ∧ 4 ≤ a 15 1 ∧ (a 15 1 ≤ 5 ∨ ((¬ a 16 4 < 1 ∧ ¬ 32 < a 16 4) ∧ (a 15 1 = 5 + a 16 4 ∨ a 15 1 = 6 + a 16 4)))) := by
            rintro ⟨-, -, q | q⟩
            · exact h5 q
            · rw [eo, ho0] at q
              exact q.1.1 (by decide)
          exact ⟨⟨fun q => absurd q n1, fun q => absurd q n2⟩, fun q => absurd q n1⟩
        · have een : q_en a = nI (5 + o) := by
            unfold q_en
            rw [edl, if_neg (nI_nle (by omega) (by omega)), show (5 : Int32) = nI 5 from rfl, nI_add]
          have e1 : q_en a + 1 = nI (6 + o) := by rw [een, ← nI_succ]; congr 1; omega
          have x5 : (5 : Int32) + a 16 4 = nI (5 + o) := by rw [eo, show (5 : Int32) = nI 5 from rfl, nI_add]
          have x6 : (6 : Int32) + a 16 4 = nI (6 + o) := by rw [eo, show (6 : Int32) = nI 6 from rfl, nI_add]
          have iff1 : (a 15 2 = 0 ∧ 4 ≤ a 15 1 ∧ ¬ 32 < q_dl a ∧ ¬ a 15 1 < q_en a ∧ a 15 1 ≤ q_en a + 1) ↔ (o ≤ 32 ∧ 5 + o ≤ l ∧ l ≤ 6 + o) := by
            rw [edl, e1, een, el]
            constructor
            · rintro ⟨-, -, q1, q2, q3⟩
              refine ⟨?_, ?_, (nI_leI (by omega) (by omega)).mp q3⟩
              · rcases Nat.lt_or_ge 32 o with r | r
                · exact absurd (nI_lt (a := 32) r (by omega)) q1
                · exact r
              · rcases Nat.lt_or_ge l (5 + o) with r | r
                · exact absurd (nI_lt r (by omega)) q2
                · exact r
            · rintro ⟨q1, q2, q3⟩
              exact ⟨h2, by rw [← el]; exact h4, nI_nlt (b := o) (a := 32) q1 (by omega), nI_nlt q2 (by omega), nI_le q3 (by omega)⟩
          have iff2 : (a 15 2 = 0 ∧ 4 ≤ a 15 1 ∧ (a 15 1 ≤ 5 ∨ ((¬ a 16 4 < 1 ∧ ¬ 32 < a 16 4) ∧ (a 15 1 = 5 + a 16 4 ∨ a 15 1 = 6 + a 16 4)))) ↔ (o ≤ 32 ∧ 5 + o ≤ l ∧ l ≤ 6 + o) := by
            rw [x5, x6, eo]
            constructor
            · rintro ⟨-, -, q | q⟩
              · exact absurd q h5
              · have q1 : o ≤ 32 := by
                  rcases Nat.lt_or_ge 32 o with r | r
                  · exact absurd (nI_lt (a := 32) r (by omega)) q.1.2
                  · exact r
                rcases q.2 with r | r
                · rw [el] at r
                  have := (nI_eq (by omega) (by omega)).mp r
                  omega
                · rw [el] at r
                  have := (nI_eq (by omega) (by omega)).mp r
                  omega
            · rintro ⟨q1, q2, q3⟩
              refine ⟨h2, h4, Or.inr ⟨⟨nI_nlt (a := o) (b := 1) (by omega) (by omega), nI_nlt (b := o) (a := 32) q1 (by omega)⟩, ?_⟩⟩
              rw [el]
              have : l = 5 + o ∨ l = 6 + o := by omega
              rcases this with r | r
              · exact Or.inl (by rw [r])
              · exact Or.inr (by rw [r])
          refine ⟨iff1.trans iff2.symm, fun hok => ⟨by rw [edl, eed], ?_⟩⟩
          obtain ⟨q1, q2, q3⟩ := iff1.mp hok
          have x5' : ¬ a 15 1 = 5 := fun q => h5 (by rw [q]; decide)
          unfold q_ex e_x
          rw [← e151, ← e16, if_neg x5', if_neg h5, x6]
          have : l = 5 + o ∨ l = 6 + o := by omega
          rcases this with r | r
          · left
            refine ⟨if_neg (fun q => q.2 (by rw [een, el, r]; exact Int32.le_refl _)), ?_⟩
            rw [if_neg (show ¬ a 15 1 = nI (6 + o) from fun q => by
              rw [el] at q
              have := (nI_eq (by omega) (by omega)).mp q
              omega)]
            decide
          · right
            have ee : (q_en a).toNatClampNeg = 5 + o := by rw [een]; exact nI_clamp (by omega)
            have ei : (a 15 1 - 1).toNatClampNeg = 5 + o := by
              rw [el, show l = (5 + o) + 1 by omega, nI_pred]; exact nI_clamp (by omega)
            rw [if_pos (show p_ok a ∧ ¬ a 15 1 ≤ q_en a from ⟨hok, by rw [een, el, r]; exact nI_ge (by omega) (by omega)⟩), if_pos (show a 15 1 = nI (6 + o) by rw [el, r]), ee, ei]
            obtain ⟨k, hk, ek⟩ := ho (5 + o)
            exact ⟨k, hk, ek, rfl⟩
    · have n1 : ¬ (a 15 2 = 0 ∧ 4 ≤ a 15 1 ∧ ¬ 32 < q_dl a ∧ ¬ a 15 1 < q_en a ∧ a 15 1 ≤ q_en a + 1) := fun q => h4 q.2.1
      exact ⟨⟨fun q => absurd q n1, fun q => absurd q.2.1 h4⟩, fun q => absurd q n1⟩
  · have n1 : ¬ (a 15 2 = 0 ∧ 4 ≤ a 15 1 ∧ ¬ 32 < q_dl a ∧ ¬ a 15 1 < q_en a ∧ a 15 1 ≤ q_en a + 1) := fun q => h2 q.1
    exact ⟨⟨fun q => absurd q n1, fun q => absurd q.1 h2⟩, fun q => absurd q n1⟩
theorem perf_ok {a b : rz_M} (h : WI zV a b) (hD : DC a) (hJ : JC a) : RES (f_perf a) (g_exe b) := by
  obtain ⟨hiff, hpar⟩ := parse_ok h.2.2 hJ
  have e16 : a 16 = b 28 := h.2.2.2 (16, 28) (by decide)
  have hp : WI zV (f_parse a) b := by
    unfold f_parse
    exact ⟨IPa_up (k := 15) (by decide) (IPa_up (k := 15) (by decide) h.1), h.2.1, RL_l okV (RL_l okV h.2.2 (by decide) (by decide)) (by decide) (by decide)⟩
  have hpD : DC (f_parse a) := DC_eq (a := a) rfl rfl rfl hD
  have S : ∀ {s : Int32}, ¬ s = -1 → RES (s, f_parse a) (s, b) := fun hs => RES_same hp hpD hs
  unfold f_perf g_exe
  refine R2 RES hiff (fun hok => ?_) (fun _ => S (by decide))
  rw [← e16]
  refine R2 RES Iff.rfl (fun _ => ?_) (fun _ => S (by decide))
  obtain ⟨ed, ex⟩ := hpar hok
  obtain ⟨n, hn32, en⟩ := q_dl_nI hJ.2 hok
  have hd : f_parse a 15 3 = e_d b := ed
  have hn : f_parse a 15 3 = nI n := en
  have hX : EX (f_parse a) (e_x b) := ex
  have hO : OCT (f_parse a 16) := hJ.2
  have e1 : f_parse a 16 = a 16 := f_parse_ne (by decide)
  unfold f_ins g_ins
  rw [e1, e16]
  refine R2 RES Iff.rfl (fun _ => tell_ok hp hpD hd hX) (fun _ => R2 RES Iff.rfl (fun _ => renew_ok hp hpD hd hX) (fun _ => R2 RES Iff.rfl (fun _ => find_ok hp hpD hO hd hn hn32) (fun _ => R2 RES Iff.rfl (fun _ => read_ok hp hpD hO hd hX) (fun _ => R2 RES Iff.rfl (fun _ => ?_) (fun _ => S (by decide))))))
  rw [nc hn (by omega), ← hd, nc hn (by omega), hn]
  exact chg_ok hp hpD hO hn hn32 hX
