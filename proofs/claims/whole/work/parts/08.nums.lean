/-! numbers, truth values, what is read behind writings -/
theorem vi_lt {x m : Int32} (h0 : 0 ≤ x) (h : x < m) : vp_in x m.toInt.toNat := by
  rw [vp_in_iff]
  rw [Int32.le_iff_toInt_le] at h0
  rw [Int32.lt_iff_toInt_lt] at h
  have : (0 : Int32).toInt = 0 := rfl
  omega
theorem rzT {α : Type} {c : Prop} {_ : Decidable c} {a b : α} (Q : α → Prop) (h : c) (hp : Q (ite c a b)) : Q a := by rw [if_pos h] at hp; exact hp
theorem rzF {α : Type} {c : Prop} {_ : Decidable c} {a b : α} (Q : α → Prop) (h : ¬ c) (hp : Q (ite c a b)) : Q b := by rw [if_neg h] at hp; exact hp
def b2 (p : Prop) [Decidable p] : Int32 := if p then 1 else 0
theorem b2_pos {p : Prop} {_ : Decidable p} (h : p) : b2 p = 1 := if_pos h
theorem b2_neg {p : Prop} {_ : Decidable p} (h : ¬ p) : b2 p = 0 := if_neg h
theorem b2_ne {p : Prop} {_ : Decidable p} (h : ¬ b2 p = 0) : p := by
  by_cases hp : p
  · exact hp
  · exact absurd (b2_neg hp) h
theorem b2_eq {p : Prop} {_ : Decidable p} (h : b2 p = 0) : ¬ p := by
  intro hp
  rw [b2_pos hp] at h
  exact absurd h (by decide)
theorem b2_01 (p : Prop) {_ : Decidable p} : b2 p = 0 ∨ b2 p = 1 := by
  by_cases hp : p
  · exact Or.inr (b2_pos hp)
  · exact Or.inl (b2_neg hp)
theorem pT {p : Prop} {_ : Decidable p} {P : rz_P} {μ : rz_M} (hC : P (some (.int (b2 p))) μ) (hp : p) : ((1 : Int32) = 0 ∨ (1 : Int32) = 1) ∧ P (some (.int 1)) μ := ⟨Or.inr rfl, by rw [b2_pos hp] at hC; exact hC⟩
theorem pF {p : Prop} {_ : Decidable p} {P : rz_P} {μ : rz_M} (hC : P (some (.int (b2 p))) μ) (hp : ¬ p) : ((0 : Int32) = 0 ∨ (0 : Int32) = 1) ∧ P (some (.int 0)) μ := ⟨Or.inl rfl, by rw [b2_neg hp] at hC; exact hC⟩
theorem rz_up_at {μ : rz_M} {k j : Nat} {x : Int32} : rz_up μ k j x k j = x := by simp [rz_up, rz_uf, upd]
theorem rz_up_k {μ : rz_M} {k j k' : Nat} {x : Int32} (h : k' ≠ k) : rz_up μ k j x k' = μ k' := by simp [rz_up, rz_uf, h]
theorem rz_up_j {μ : rz_M} {k j j' : Nat} {x : Int32} (h : j' ≠ j) : rz_up μ k j x k j' = μ k j' := by simp [rz_up, rz_uf, upd, h]
theorem rz_up_same {μ : rz_M} {k j : Nat} {x y : Int32} : rz_up (rz_up μ k j x) k j y = rz_up μ k j y := by
  funext k' j'
  by_cases hk : k' = k
  · subst hk
    by_cases hj : j' = j <;> simp [rz_up, rz_uf, upd, hj]
  · simp [rz_up, rz_uf, hk]
theorem rz_up_comm {μ : rz_M} {k j k2 j2 : Nat} {x y : Int32} (h : k ≠ k2 ∨ j ≠ j2) : rz_up (rz_up μ k j x) k2 j2 y = rz_up (rz_up μ k2 j2 y) k j x := by
  funext k' j'
  by_cases hk : k' = k
  · subst hk
    by_cases hk2 : k' = k2
    · subst hk2
      have hj : j ≠ j2 := h.resolve_left (fun q => q rfl)
      by_cases e1 : j' = j
      · subst e1; simp [rz_up, rz_uf, upd, hj]
      · simp [rz_up, rz_uf, upd, e1]
    · simp [rz_up, rz_uf, hk2]
  · by_cases hk2 : k' = k2
    · subst hk2
      have : ¬ k = k' := fun q => hk q.symm
      simp [rz_up, rz_uf, hk]
    · simp [rz_up, rz_uf, hk, hk2]
theorem rz_up_id {μ : rz_M} {k j : Nat} {x : Int32} (h : μ k j = x) : rz_up μ k j x = μ := by
  funext k' j'
  by_cases hk : k' = k
  · subst hk
    by_cases hj : j' = j
    · subst hj; simp [rz_up, rz_uf, upd, h]
    · simp [rz_up, rz_uf, upd, hj]
  · simp [rz_up, rz_uf, hk]
theorem vi_c {x : Int32} {n : Nat} (h : ¬ (x < 0 ∨ n ≤ x.toNatClampNeg)) : vp_in x n := h
theorem i_add {a b : Int32} (h1 : -2147483648 ≤ a.toInt + b.toInt) (h2 : a.toInt + b.toInt < 2147483648) : (a + b).toInt = a.toInt + b.toInt := by
  rw [Int32.toInt_add, Int.bmod_def]; split <;> omega
theorem i_sub {a b : Int32} (h1 : -2147483648 ≤ a.toInt - b.toInt) (h2 : a.toInt - b.toInt < 2147483648) : (a - b).toInt = a.toInt - b.toInt := by
  rw [Int32.toInt_sub, Int.bmod_def]; split <;> omega
theorem i_mul {a b : Int32} (h1 : -2147483648 ≤ a.toInt * b.toInt) (h2 : a.toInt * b.toInt < 2147483648) : (a * b).toInt = a.toInt * b.toInt := by
  rw [Int32.toInt_mul, Int.bmod_def]; split <;> omega
theorem i_clamp {a : Int32} (h : 0 ≤ a.toInt) : (a.toNatClampNeg : Int) = a.toInt := by
  unfold Int32.toNatClampNeg; omega
theorem i_le {a b : Int32} : a ≤ b ↔ a.toInt ≤ b.toInt := Int32.le_iff_toInt_le
theorem i_lt {a b : Int32} : a < b ↔ a.toInt < b.toInt := Int32.lt_iff_toInt_lt
theorem i_eq {a b : Int32} : a = b ↔ a.toInt = b.toInt := Int32.toInt_inj.symm
def xs (f : Nat → Int32) : Nat → Int32
  | 0 => 0
  | n + 1 => xs f n ^^^ f n
def PQ (P : rz_P) (z : Int32 × rz_M) : Prop := P (some (.int z.1)) z.2
theorem rzN {α : Type} {c : Prop} {_ : Decidable c} {a b : α} (Q : α → Prop) (h : c) (hp : Q (ite (¬ c) a b)) : Q b := by rw [if_neg (fun q => q h)] at hp; exact hp
theorem nc {n : Nat} {x : Int32} (h : x = nI n) (hn : n < 2147483648) : x.toNatClampNeg = n := by rw [h]; exact nI_clamp hn
/-- all are OCTETS -/
def OCT (f : Nat → Int32) : Prop := ∀ j, ∃ o : Nat, o ≤ 255 ∧ f j = nI o
