/-! THE EMBEDDING: an instruction is a transformer of predicates over (locals, operand stack, memory); each is sound over the machine.
Memory: cell k, place j holds an int (a field of an object, an element of an int array); fields that hold objects are fixed by the shape. A reference k means cell k of the shape; 'ad k' is its address. -/
abbrev rz_M : Type := Nat → Nat → Int32
abbrev rz_L : Type := List (Option Value)
abbrev rz_K : Type := rz_L → List Value → rz_M → Prop
abbrev rz_P : Type := Option Value → rz_M → Prop
abbrev rz_T : Type := rz_P → (Nat → rz_K) → rz_K → rz_K
abbrev rz_C : Type := List Value → rz_M → rz_P → Prop
abbrev rz_Sh : Type := Nat ⊕ (Nat × List (Option Nat))
/-- what stays the same over all methods: launch, class numbers, addresses, the class of int arrays, where the world begins -/
abbrev rz_E : Type := Launch × va_G × (Nat → Nat) × ClassId × Nat
abbrev rz_X : Type := rz_E × Program × Env × Room × State × MethodId × Array Value × List Frame × Method × Code × (State → Prop) × Nat × Nat × Nat
def rz_v (ad : Nat → Nat) (v : Value) : Value := match v with
  | .ref k => .ref (ad k)
  | w => w
def rz_nth {α : Type} : List α → Nat → Option α
  | [], _ => none
  | a :: _, 0 => some a
  | _ :: t, n + 1 => rz_nth t n
theorem rz_nth_eq {α : Type} : ∀ (l : List α) (n : Nat), rz_nth l n = l[n]?
  | [], n => by simp [rz_nth]
  | a :: t, 0 => by simp [rz_nth]
  | a :: t, n + 1 => by rw [rz_nth, rz_nth_eq t n]; simp
def rz_lg : rz_L → Nat → Option Value
  | [], _ => none
  | v :: _, 0 => v
  | _ :: t, n + 1 => rz_lg t n
def rz_ls : rz_L → Nat → Value → rz_L
  | [], _, _ => []
  | _ :: t, 0, v => some v :: t
  | h :: t, n + 1, v => h :: rz_ls t n v
def rz_ps (ad : Nat → Nat) : Nat → rz_L → List (Nat × Value)
  | _, [] => []
  | k, none :: t => rz_ps ad (k + 1) t
  | k, some v :: t => (k, rz_v ad v) :: rz_ps ad (k + 1) t
theorem rz_ps_mem (ad : Nat → Nat) : ∀ (ls : rz_L) (k : Nat) (q : Nat × Value), q ∈ rz_ps ad k ls ↔ ∃ (j : Nat) (v : Value), q = (k + j, rz_v ad v) ∧ rz_lg ls j = some v
  | [], k, q => by
    constructor
    · intro h; simp [rz_ps] at h
    · rintro ⟨j, v, -, h⟩; simp [rz_lg] at h
  | none :: t, k, q => by
    rw [rz_ps, rz_ps_mem ad t (k + 1) q]
    constructor
    · rintro ⟨j, v, h1, h2⟩
      exact ⟨j + 1, v, h1.trans (by rw [Nat.add_assoc, Nat.add_comm 1 j]), h2⟩
    · rintro ⟨j, v, h1, h2⟩
      cases j with
      | zero => simp [rz_lg] at h2
      | succ j => exact ⟨j, v, h1.trans (by rw [Nat.add_assoc, Nat.add_comm 1 j]), h2⟩
  | some w :: t, k, q => by
    rw [rz_ps, List.mem_cons, rz_ps_mem ad t (k + 1) q]
    constructor
    · rintro (h | ⟨j, v, h1, h2⟩)
      · exact ⟨0, w, h, rfl⟩
      · exact ⟨j + 1, v, h1.trans (by rw [Nat.add_assoc, Nat.add_comm 1 j]), h2⟩
    · rintro ⟨j, v, h1, h2⟩
      cases j with
      | zero =>
        left
        have : w = v := Option.some.inj h2
        rw [h1, this]; rfl
      | succ j => exact Or.inr ⟨j, v, h1.trans (by rw [Nat.add_assoc, Nat.add_comm 1 j]), h2⟩
theorem rz_lg_at {ad : Nat → Nat} {la : Array Slot} {n : Nat} {ls : rz_L} (h : lv_has la n (rz_ps ad 0 ls)) {i : Nat} {v : Value} (hi : rz_lg ls i = some v) : la[i]? = some (.val (rz_v ad v)) := by
  have := h.2.2 (i, rz_v ad v) ((rz_ps_mem ad ls 0 _).mpr ⟨i, v, by rw [Nat.zero_add], hi⟩)
  exact this
theorem rz_lg_ls : ∀ (ls : rz_L) (i j : Nat) (v w : Value), rz_lg (rz_ls ls i v) j = some w → (j = i ∧ w = v) ∨ (j ≠ i ∧ rz_lg ls j = some w)
  | [], i, j, v, w, h => by simp [rz_ls, rz_lg] at h
  | a :: t, 0, 0, v, w, h => Or.inl ⟨rfl, (Option.some.inj h).symm⟩
  | a :: t, 0, j + 1, v, w, h => Or.inr ⟨by omega, h⟩
  | a :: t, i + 1, 0, v, w, h => Or.inr ⟨by omega, h⟩
  | a :: t, i + 1, j + 1, v, w, h => by
    rcases rz_lg_ls t i j v w h with ⟨h1, h2⟩ | ⟨h1, h2⟩
    · exact Or.inl ⟨by omega, h2⟩
    · exact Or.inr ⟨by omega, h2⟩
/-- no long stands just ahead of place i -/
def rz_free (ls : rz_L) (i : Nat) : Bool := match i with
  | 0 => true
  | j + 1 => match rz_lg ls j with
    | some (.long _) => false
    | some (.double _) => false
    | _ => true
theorem rz_v_cat (ad : Nat → Nat) (v : Value) : (rz_v ad v).category = v.category := by cases v <;> rfl
theorem rz_stored {ad : Nat → Nat} {la : Array Slot} {n i : Nat} {ls : rz_L} {v : Value} (hf : rz_free ls i = true)
    (h : lv_has la n ((i, rz_v ad v) :: (rz_ps ad 0 ls).filter (fun q => !(q.1 == i) && !(q.1 + 1 == i && q.2.category == 2)))) : lv_has la n (rz_ps ad 0 (rz_ls ls i v)) := by
  refine ⟨h.1, h.2.1, fun q hq => h.2.2 q ?_⟩
  obtain ⟨j, w, e, hj⟩ := (rz_ps_mem ad _ 0 q).mp hq
  rw [Nat.zero_add] at e
  rcases rz_lg_ls ls i j v w hj with ⟨h1, h2⟩ | ⟨h1, h2⟩
  · rw [e, h1, h2]; exact List.mem_cons_self
  · refine List.mem_cons_of_mem _ (List.mem_filter.mpr ⟨(rz_ps_mem ad ls 0 q).mpr ⟨j, w, by rw [e, Nat.zero_add], h2⟩, ?_⟩)
    rw [e]
    have a1 : (j == i) = false := by simpa using h1
    show (!(j == i) && !(j + 1 == i && (rz_v ad w).category == 2)) = true
    rw [a1, rz_v_cat]
    by_cases hji : j + 1 = i
    · subst hji
      simp only [rz_free, h2] at hf
      cases w <;> simp_all [Value.category]
    · have : (j + 1 == i) = false := by simpa using hji
      simp [this]
-- the cells of the world
def rz_fv (ad : Nat → Nat) (f : Nat → Int32) (j : Nat) (o : Option Nat) : Value := match o with
  | some k => .ref (ad k)
  | none => .int (f j)
def rz_e (ad : Nat → Nat) (cA : ClassId) (μ : rz_M) (k : Nat) (x : rz_Sh) : Nat × va_E := (ad k, match x with
  | .inl n => .inl (cA, n, .inl (μ k))
  | .inr o => .inr (o.1, o.2.mapIdx (rz_fv ad (μ k))))
def rz_ws (ad : Nat → Nat) (cA : ClassId) (sh : List rz_Sh) (μ : rz_M) : va_W := sh.mapIdx (rz_e ad cA μ)
theorem rz_ws_at {ad : Nat → Nat} {cA : ClassId} {sh : List rz_Sh} {μ : rz_M} {k : Nat} {x : rz_Sh} (h : sh[k]? = some x) : (rz_ws ad cA sh μ)[k]? = some (rz_e ad cA μ k x) := by
  rw [rz_ws, List.getElem?_mapIdx, h]; rfl
def rz_uf (μ : rz_M) (k : Nat) (f : Nat → Int32) : rz_M := fun k' => if k' = k then f else μ k'
def rz_up (μ : rz_M) (k j : Nat) (x : Int32) : rz_M := rz_uf μ k (upd (μ k) j x)
theorem rz_uf_ne {μ : rz_M} {k i : Nat} {f : Nat → Int32} (h : i ≠ k) : rz_uf μ k f i = μ i := if_neg h
theorem rz_uf_eq {μ : rz_M} {k : Nat} {f : Nat → Int32} : rz_uf μ k f k = f := if_pos rfl
theorem rz_e_ne {ad : Nat → Nat} {cA : ClassId} {μ : rz_M} {k i : Nat} {f : Nat → Int32} (h : i ≠ k) (x : rz_Sh) : rz_e ad cA (rz_uf μ k f) i x = rz_e ad cA μ i x := by
  cases x <;> simp [rz_e, rz_uf_ne h]
theorem rz_ws_set {ad : Nat → Nat} {cA : ClassId} {sh : List rz_Sh} {μ : rz_M} {k : Nat} {x : rz_Sh} {f : Nat → Int32} (h : sh[k]? = some x) : (rz_ws ad cA sh μ).set k (rz_e ad cA (rz_uf μ k f) k x) = rz_ws ad cA sh (rz_uf μ k f) := by
  apply List.ext_getElem?
  intro i
  by_cases hi : k = i
  · subst hi
    have hk : k < sh.length := (List.getElem?_eq_some_iff.mp h).1
    rw [List.getElem?_set_self (by simpa [rz_ws] using hk), rz_ws_at h]
  · rw [List.getElem?_set_ne hi, rz_ws, rz_ws, List.getElem?_mapIdx, List.getElem?_mapIdx]
    cases sh[i]? with
    | none => rfl
    | some y => exact congrArg some (rz_e_ne (Ne.symm hi) y).symm
theorem rz_fv_set {ad : Nat → Nat} {fs : List (Option Nat)} {f : Nat → Int32} {j : Nat} {x : Int32} (h : fs[j]? = some none) : (fs.mapIdx (rz_fv ad f)).set j (.int x) = fs.mapIdx (rz_fv ad (upd f j x)) := by
  apply List.ext_getElem?
  intro i
  by_cases hi : j = i
  · subst hi
    have hk : j < fs.length := (List.getElem?_eq_some_iff.mp h).1
    rw [List.getElem?_set_self (by simpa using hk), List.getElem?_mapIdx, h]
    simp [rz_fv, upd]
  · rw [List.getElem?_set_ne hi, List.getElem?_mapIdx, List.getElem?_mapIdx]
    cases fs[i]? with
    | none => rfl
    | some y =>
      have hne : ¬ i = j := fun q => hi q.symm
      cases y <;> simp [rz_fv, upd, hne]
def rz_A (N0 : Nat) : Nat → Prop := fun q => N0 ≤ q
/-- from pc, with these locals, stack and memory, the machine comes to Q -/
def rz_W (sh : List rz_Sh) (cl : List vw_C) (X : rz_X) (pc : Nat) : rz_K := fun ls st μ => match X with
  | ((l, D, ad, cA, N0), p, e, R, s, m, args, below, meth, c, Q, cells, slots, nL) =>
    ∀ (la : Array Slot) (H : Heap) (locs : List Loc), lv_has la nL (rz_ps ad 0 ls) → va_P D cl (rz_ws ad cA sh μ) H → va_D (rz_A N0) (rz_ws ad cA sh μ) → va_S (rz_A N0) s.heap H locs →
      W p l e R s m args below meth c H locs cells slots Q (F0 m pc la (st.map (rz_v ad)))
def rz_Cx (cl : List vw_C) (X : rz_X) (cc : ByteArray) (n : Nat) (Ts : List Cond) (own : String) (rm : Room) : Prop := match X with
  | ((_, D, _, cA, N0), p, _, R, s, m, args, _, _, c, _, cells, slots, nL) =>
    CallFix p m c cc nL s args Ts own ∧ va_K D cl [(cA, .int)] s ∧ N0 ≤ s.heap.size ∧ cells ≤ R.cells ∧ slots ≤ R.slots ∧ R = rm ∧ nL = n ∧ ∀ w ∈ rz_nw, va_Nw w s
def rz_Snd (sh : List rz_Sh) (cl : List vw_C) (X : rz_X) (bp : Nat → Nat) (RT : rz_P → Prop) (t : rz_T) (pc npc : Nat) : Prop :=
  ∀ (P : rz_P) (J : Nat → rz_K) (K : rz_K), RT P → (∀ b ls st μ, J b ls st μ → rz_W sh cl X (bp b) ls st μ) → (∀ ls st μ, K ls st μ → rz_W sh cl X npc ls st μ) →
    ∀ ls st μ, t P J K ls st μ → rz_W sh cl X pc ls st μ
def rz_ex (P : rz_P) (J : Nat → rz_K) : List rz_T → rz_K
  | [] => fun _ _ _ => False
  | t :: ts => t P J (rz_ex P J ts)
def rz_SB (sh : List rz_Sh) (cl : List vw_C) (X : rz_X) (bp : Nat → Nat) (RT : rz_P → Prop) (ts : List rz_T) (pc : Nat) : Prop :=
  ∀ (P : rz_P) (J : Nat → rz_K), RT P → (∀ b ls st μ, J b ls st μ → rz_W sh cl X (bp b) ls st μ) → ∀ ls st μ, rz_ex P J ts ls st μ → rz_W sh cl X pc ls st μ
section RZ
variable {sh : List rz_Sh} {cl : List vw_C} {X : rz_X} {bp : Nat → Nat} {RT : rz_P → Prop} {pc : Nat} {cc : ByteArray} {n : Nat} {Ts : List Cond} {own : String} {rm : Room}
theorem rz_nil : rz_SB sh cl X bp RT [] pc := fun _ _ _ _ _ _ _ h => h.elim
theorem rz_cons {t : rz_T} {ts : List rz_T} {npc : Nat} (h : rz_Snd sh cl X bp RT t pc npc) (hs : rz_SB sh cl X bp RT ts npc) : rz_SB sh cl X bp RT (t :: ts) pc :=
  fun P J hR hJ ls st μ he => h P J (rz_ex P J ts) hR hJ (fun ls st μ q => hs P J hR hJ ls st μ q) ls st μ he
/-- the block goes over into the next one -/
def tz_fall (b : Nat) : rz_T := fun _ J _ ls st μ => J b ls st μ
theorem rz_fall {b : Nat} (h : bp b = pc) : rz_SB sh cl X bp RT [tz_fall b] pc := fun _ _ _ hJ ls st μ he => h ▸ hJ b ls st μ he

def tz_iconst (v : Int32) : rz_T := fun _ _ K ls st μ => K ls (.int v :: st) μ
theorem rz_iconst {k : Int} {v : Int32} (G : rz_Cx cl X cc n Ts own rm) (hd : decode cc pc = .ok (.iconst k, 1)) (hv : Int32.ofInt k = v) : rz_Snd sh cl X bp RT (tz_iconst v) pc (pc + 1) := by
  obtain ⟨⟨l, D, ad, cA, N0⟩, p, e, R, s, m, args, below, meth, c, Q, cells, slots, nL⟩ := X
  obtain ⟨⟨hx, hb, hml, hown, hts⟩, hK, hN, hce, hsl, hRm, hnL, hNw⟩ := G
  intro P J K hR hJ hk ls st μ h la H locs hl hP hD hS
  exact lv_iconst hx hb hd hv (hk _ _ _ h la H locs hl hP hD hS)
def tz_bipush (v : Int32) : rz_T := fun _ _ K ls st μ => K ls (.int v :: st) μ
theorem rz_bipush {k : Int} {v : Int32} (G : rz_Cx cl X cc n Ts own rm) (hd : decode cc pc = .ok (.bipush k, 2)) (hv : (Int8.ofInt k).toInt32 = v) : rz_Snd sh cl X bp RT (tz_bipush v) pc (pc + 2) := by
  obtain ⟨⟨l, D, ad, cA, N0⟩, p, e, R, s, m, args, below, meth, c, Q, cells, slots, nL⟩ := X
  obtain ⟨⟨hx, hb, hml, hown, hts⟩, hK, hN, hce, hsl, hRm, hnL, hNw⟩ := G
  intro P J K hR hJ hk ls st μ h la H locs hl hP hD hS
  exact lv_bipush hx hb hd hv (hk _ _ _ h la H locs hl hP hD hS)
def tz_sipush (v : Int32) : rz_T := fun _ _ K ls st μ => K ls (.int v :: st) μ
theorem rz_sipush {k : Int} {v : Int32} (G : rz_Cx cl X cc n Ts own rm) (hd : decode cc pc = .ok (.sipush k, 3)) (hv : (Int16.ofInt k).toInt32 = v) : rz_Snd sh cl X bp RT (tz_sipush v) pc (pc + 3) := by
  obtain ⟨⟨l, D, ad, cA, N0⟩, p, e, R, s, m, args, below, meth, c, Q, cells, slots, nL⟩ := X
  obtain ⟨⟨hx, hb, hml, hown, hts⟩, hK, hN, hce, hsl, hRm, hnL, hNw⟩ := G
  intro P J K hR hJ hk ls st μ h la H locs hl hP hD hS
  exact lv_sipush hx hb hd hv (hk _ _ _ h la H locs hl hP hD hS)
def tz_ldc (v : Int32) : rz_T := fun _ _ K ls st μ => K ls (.int v :: st) μ
theorem rz_ldc {k : Nat} {v : Int32} (G : rz_Cx cl X cc n Ts own rm) (hc : Cond.constant own k v ∈ Ts) (hd : decode cc pc = .ok (.ldc k, 2)) : rz_Snd sh cl X bp RT (tz_ldc v) pc (pc + 2) := by
  obtain ⟨⟨l, D, ad, cA, N0⟩, p, e, R, s, m, args, below, meth, c, Q, cells, slots, nL⟩ := X
  obtain ⟨⟨hx, hb, hml, hown, hts⟩, hK, hN, hce, hsl, hRm, hnL, hNw⟩ := G
  intro P J K hR hJ hk ls st μ h la H locs hl hP hD hS
  exact lv_ldc hx hb hown (hts _ hc) hd (hk _ _ _ h la H locs hl hP hD hS)
def tz_iload (i : Nat) : rz_T := fun _ _ K ls st μ => match rz_lg ls i with
  | some (.int x) => K ls (.int x :: st) μ
  | _ => False
theorem rz_iload_n {k : Fin 4} {i : Nat} (G : rz_Cx cl X cc n Ts own rm) (hd : decode cc pc = .ok (.iload_n k, 1)) (hi : (k : Nat) = i) : rz_Snd sh cl X bp RT (tz_iload i) pc (pc + 1) := by
  obtain ⟨⟨l, D, ad, cA, N0⟩, p, e, R, s, m, args, below, meth, c, Q, cells, slots, nL⟩ := X
  obtain ⟨⟨hx, hb, hml, hown, hts⟩, hK, hN, hce, hsl, hRm, hnL, hNw⟩ := G
  intro P J K hR hJ hk ls st μ h
  unfold tz_iload at h
  split at h
  · next hq => intro la H locs hl hP hD hS; exact lv_iload_n hx hb hd hi (rz_lg_at hl hq) (hk _ _ _ h la H locs hl hP hD hS)
  · exact h.elim
theorem rz_iload {i : Nat} (G : rz_Cx cl X cc n Ts own rm) (hd : decode cc pc = .ok (.iload i, 2)) : rz_Snd sh cl X bp RT (tz_iload i) pc (pc + 2) := by
  obtain ⟨⟨l, D, ad, cA, N0⟩, p, e, R, s, m, args, below, meth, c, Q, cells, slots, nL⟩ := X
  obtain ⟨⟨hx, hb, hml, hown, hts⟩, hK, hN, hce, hsl, hRm, hnL, hNw⟩ := G
  intro P J K hR hJ hk ls st μ h
  unfold tz_iload at h
  split at h
  · next hq => intro la H locs hl hP hD hS; exact lv_iload hx hb hd (rz_lg_at hl hq) (hk _ _ _ h la H locs hl hP hD hS)
  · exact h.elim
def tz_lload (i : Nat) : rz_T := fun _ _ K ls st μ => match rz_lg ls i with
  | some (.long x) => K ls (.long x :: st) μ
  | _ => False
theorem rz_lload_n {k : Fin 4} {i : Nat} (G : rz_Cx cl X cc n Ts own rm) (hd : decode cc pc = .ok (.lload_n k, 1)) (hi : (k : Nat) = i) : rz_Snd sh cl X bp RT (tz_lload i) pc (pc + 1) := by
  obtain ⟨⟨l, D, ad, cA, N0⟩, p, e, R, s, m, args, below, meth, c, Q, cells, slots, nL⟩ := X
  obtain ⟨⟨hx, hb, hml, hown, hts⟩, hK, hN, hce, hsl, hRm, hnL, hNw⟩ := G
  intro P J K hR hJ hk ls st μ h
  unfold tz_lload at h
  split at h
  · next hq => intro la H locs hl hP hD hS; exact lv_lload_n hx hb hd hi (rz_lg_at hl hq) (hk _ _ _ h la H locs hl hP hD hS)
  · exact h.elim
theorem rz_lload {i : Nat} (G : rz_Cx cl X cc n Ts own rm) (hd : decode cc pc = .ok (.lload i, 2)) : rz_Snd sh cl X bp RT (tz_lload i) pc (pc + 2) := by
  obtain ⟨⟨l, D, ad, cA, N0⟩, p, e, R, s, m, args, below, meth, c, Q, cells, slots, nL⟩ := X
  obtain ⟨⟨hx, hb, hml, hown, hts⟩, hK, hN, hce, hsl, hRm, hnL, hNw⟩ := G
  intro P J K hR hJ hk ls st μ h
  unfold tz_lload at h
  split at h
  · next hq => intro la H locs hl hP hD hS; exact lv_lload hx hb hd (rz_lg_at hl hq) (hk _ _ _ h la H locs hl hP hD hS)
  · exact h.elim
def tz_aload (i : Nat) : rz_T := fun _ _ K ls st μ => match rz_lg ls i with
  | some (.ref x) => K ls (.ref x :: st) μ
  | _ => False
theorem rz_aload_n {k : Fin 4} {i : Nat} (G : rz_Cx cl X cc n Ts own rm) (hd : decode cc pc = .ok (.aload_n k, 1)) (hi : (k : Nat) = i) : rz_Snd sh cl X bp RT (tz_aload i) pc (pc + 1) := by
  obtain ⟨⟨l, D, ad, cA, N0⟩, p, e, R, s, m, args, below, meth, c, Q, cells, slots, nL⟩ := X
  obtain ⟨⟨hx, hb, hml, hown, hts⟩, hK, hN, hce, hsl, hRm, hnL, hNw⟩ := G
  intro P J K hR hJ hk ls st μ h
  unfold tz_aload at h
  split at h
  · next hq => intro la H locs hl hP hD hS; exact lv_aload_n hx hb hd hi (rz_lg_at hl hq) (hk _ _ _ h la H locs hl hP hD hS)
  · exact h.elim
theorem rz_aload {i : Nat} (G : rz_Cx cl X cc n Ts own rm) (hd : decode cc pc = .ok (.aload i, 2)) : rz_Snd sh cl X bp RT (tz_aload i) pc (pc + 2) := by
  obtain ⟨⟨l, D, ad, cA, N0⟩, p, e, R, s, m, args, below, meth, c, Q, cells, slots, nL⟩ := X
  obtain ⟨⟨hx, hb, hml, hown, hts⟩, hK, hN, hce, hsl, hRm, hnL, hNw⟩ := G
  intro P J K hR hJ hk ls st μ h
  unfold tz_aload at h
  split at h
  · next hq => intro la H locs hl hP hD hS; exact lv_aload hx hb hd (rz_lg_at hl hq) (hk _ _ _ h la H locs hl hP hD hS)
  · exact h.elim
def tz_istore (i : Nat) : rz_T := fun _ _ K ls st μ => match st, rz_free ls i with
  | .int x :: r, true => K (rz_ls ls i (.int x)) r μ
  | _, _ => False
theorem rz_istore_n {k : Fin 4} {i : Nat} (G : rz_Cx cl X cc n Ts own rm) (hd : decode cc pc = .ok (.istore_n k, 1)) (hi : (k : Nat) = i) (hn : i < n) : rz_Snd sh cl X bp RT (tz_istore i) pc (pc + 1) := by
  obtain ⟨⟨l, D, ad, cA, N0⟩, p, e, R, s, m, args, below, meth, c, Q, cells, slots, nL⟩ := X
  obtain ⟨⟨hx, hb, hml, hown, hts⟩, hK, hN, hce, hsl, hRm, hnL, hNw⟩ := G
  intro P J K hR hJ hk ls st μ h
  unfold tz_istore at h
  split at h
  · next hq => intro la H locs hl hP hD hS; exact lv_istore_n hx hb hd hi hl (by rw [hnL]; exact hn) rfl (fun la' hl' => hk _ _ _ h la' H locs (rz_stored hq hl') hP hD hS)
  · exact h.elim
theorem rz_istore {i : Nat} (G : rz_Cx cl X cc n Ts own rm) (hd : decode cc pc = .ok (.istore i, 2)) (hn : i < n) : rz_Snd sh cl X bp RT (tz_istore i) pc (pc + 2) := by
  obtain ⟨⟨l, D, ad, cA, N0⟩, p, e, R, s, m, args, below, meth, c, Q, cells, slots, nL⟩ := X
  obtain ⟨⟨hx, hb, hml, hown, hts⟩, hK, hN, hce, hsl, hRm, hnL, hNw⟩ := G
  intro P J K hR hJ hk ls st μ h
  unfold tz_istore at h
  split at h
  · next hq => intro la H locs hl hP hD hS; exact lv_istore hx hb hd hl (by rw [hnL]; exact hn) rfl (fun la' hl' => hk _ _ _ h la' H locs (rz_stored hq hl') hP hD hS)
  · exact h.elim
def tz_astore (i : Nat) : rz_T := fun _ _ K ls st μ => match st, rz_free ls i with
  | .ref x :: r, true => K (rz_ls ls i (.ref x)) r μ
  | _, _ => False
theorem rz_astore_n {k : Fin 4} {i : Nat} (G : rz_Cx cl X cc n Ts own rm) (hd : decode cc pc = .ok (.astore_n k, 1)) (hi : (k : Nat) = i) (hn : i < n) : rz_Snd sh cl X bp RT (tz_astore i) pc (pc + 1) := by
  obtain ⟨⟨l, D, ad, cA, N0⟩, p, e, R, s, m, args, below, meth, c, Q, cells, slots, nL⟩ := X
  obtain ⟨⟨hx, hb, hml, hown, hts⟩, hK, hN, hce, hsl, hRm, hnL, hNw⟩ := G
  intro P J K hR hJ hk ls st μ h
  unfold tz_astore at h
  split at h
  · next hq => intro la H locs hl hP hD hS; exact lv_astore_n hx hb hd hi hl (by rw [hnL]; exact hn) rfl (fun la' hl' => hk _ _ _ h la' H locs (rz_stored hq hl') hP hD hS)
  · exact h.elim
theorem rz_astore {i : Nat} (G : rz_Cx cl X cc n Ts own rm) (hd : decode cc pc = .ok (.astore i, 2)) (hn : i < n) : rz_Snd sh cl X bp RT (tz_astore i) pc (pc + 2) := by
  obtain ⟨⟨l, D, ad, cA, N0⟩, p, e, R, s, m, args, below, meth, c, Q, cells, slots, nL⟩ := X
  obtain ⟨⟨hx, hb, hml, hown, hts⟩, hK, hN, hce, hsl, hRm, hnL, hNw⟩ := G
  intro P J K hR hJ hk ls st μ h
  unfold tz_astore at h
  split at h
  · next hq => intro la H locs hl hP hD hS; exact lv_astore hx hb hd hl (by rw [hnL]; exact hn) rfl (fun la' hl' => hk _ _ _ h la' H locs (rz_stored hq hl') hP hD hS)
  · exact h.elim
def tz_iinc (i : Nat) (d : Int32) : rz_T := fun _ _ K ls st μ => match rz_lg ls i, rz_free ls i with
  | some (.int x), true => K (rz_ls ls i (.int (x + d))) st μ
  | _, _ => False
theorem rz_iinc {i : Nat} {k : Int} {d : Int32} (G : rz_Cx cl X cc n Ts own rm) (hd : decode cc pc = .ok (.iinc i k, 3)) (hv : Int32.ofInt k = d) (hn : i < n) : rz_Snd sh cl X bp RT (tz_iinc i d) pc (pc + 3) := by
  obtain ⟨⟨l, D, ad, cA, N0⟩, p, e, R, s, m, args, below, meth, c, Q, cells, slots, nL⟩ := X
  obtain ⟨⟨hx, hb, hml, hown, hts⟩, hK, hN, hce, hsl, hRm, hnL, hNw⟩ := G
  intro P J K hR hJ hk ls st μ h
  unfold tz_iinc at h
  split at h
  · next x hq hf =>
    intro la H locs hl hP hD hS
    obtain ⟨j, hj⟩ := List.getElem?_of_mem ((rz_ps_mem ad ls 0 (i, .int x)).mpr ⟨i, .int x, by rw [Nat.zero_add]; rfl, hq⟩)
    exact lv_iinc (v := x + d) hx hb hd hl hj (by rw [hv]) (by rw [hnL]; exact hn) rfl (fun la' hl' => hk _ _ _ h la' H locs (rz_stored (v := .int (x + d)) hf hl') hP hD hS)
  · exact h.elim
def tz_iadd : rz_T := fun P J K ls st μ => match st with
  | .int y :: .int x :: r => K ls (.int (x + y) :: r) μ
  | _ => False
theorem rz_iadd (G : rz_Cx cl X cc n Ts own rm) (hd : decode cc pc = .ok (.iadd, 1)) : rz_Snd sh cl X bp RT (tz_iadd) pc (pc + 1) := by
  obtain ⟨⟨l, D, ad, cA, N0⟩, p, e, R, s, m, args, below, meth, c, Q, cells, slots, nL⟩ := X
  obtain ⟨⟨hx, hb, hml, hown, hts⟩, hK, hN, hce, hsl, hRm, hnL, hNw⟩ := G
  intro P J K hR hJ hk ls st μ h
  unfold tz_iadd at h
  split at h
  · intro la H locs hl hP hD hS; exact lv_iadd hx hb hd (hk _ _ _ h la H locs hl hP hD hS)
  · exact h.elim
def tz_isub : rz_T := fun P J K ls st μ => match st with
  | .int y :: .int x :: r => K ls (.int (x - y) :: r) μ
  | _ => False
theorem rz_isub (G : rz_Cx cl X cc n Ts own rm) (hd : decode cc pc = .ok (.isub, 1)) : rz_Snd sh cl X bp RT (tz_isub) pc (pc + 1) := by
  obtain ⟨⟨l, D, ad, cA, N0⟩, p, e, R, s, m, args, below, meth, c, Q, cells, slots, nL⟩ := X
  obtain ⟨⟨hx, hb, hml, hown, hts⟩, hK, hN, hce, hsl, hRm, hnL, hNw⟩ := G
  intro P J K hR hJ hk ls st μ h
  unfold tz_isub at h
  split at h
  · intro la H locs hl hP hD hS; exact lv_isub hx hb hd (hk _ _ _ h la H locs hl hP hD hS)
  · exact h.elim
def tz_imul : rz_T := fun P J K ls st μ => match st with
  | .int y :: .int x :: r => K ls (.int (x * y) :: r) μ
  | _ => False
theorem rz_imul (G : rz_Cx cl X cc n Ts own rm) (hd : decode cc pc = .ok (.imul, 1)) : rz_Snd sh cl X bp RT (tz_imul) pc (pc + 1) := by
  obtain ⟨⟨l, D, ad, cA, N0⟩, p, e, R, s, m, args, below, meth, c, Q, cells, slots, nL⟩ := X
  obtain ⟨⟨hx, hb, hml, hown, hts⟩, hK, hN, hce, hsl, hRm, hnL, hNw⟩ := G
  intro P J K hR hJ hk ls st μ h
  unfold tz_imul at h
  split at h
  · intro la H locs hl hP hD hS; exact lv_imul hx hb hd (hk _ _ _ h la H locs hl hP hD hS)
  · exact h.elim
def tz_iand : rz_T := fun P J K ls st μ => match st with
  | .int y :: .int x :: r => K ls (.int (x &&& y) :: r) μ
  | _ => False
theorem rz_iand (G : rz_Cx cl X cc n Ts own rm) (hd : decode cc pc = .ok (.iand, 1)) : rz_Snd sh cl X bp RT (tz_iand) pc (pc + 1) := by
  obtain ⟨⟨l, D, ad, cA, N0⟩, p, e, R, s, m, args, below, meth, c, Q, cells, slots, nL⟩ := X
  obtain ⟨⟨hx, hb, hml, hown, hts⟩, hK, hN, hce, hsl, hRm, hnL, hNw⟩ := G
  intro P J K hR hJ hk ls st μ h
  unfold tz_iand at h
  split at h
  · intro la H locs hl hP hD hS; exact lv_iand hx hb hd (hk _ _ _ h la H locs hl hP hD hS)
  · exact h.elim
def tz_ior : rz_T := fun P J K ls st μ => match st with
  | .int y :: .int x :: r => K ls (.int (x ||| y) :: r) μ
  | _ => False
theorem rz_ior (G : rz_Cx cl X cc n Ts own rm) (hd : decode cc pc = .ok (.ior, 1)) : rz_Snd sh cl X bp RT (tz_ior) pc (pc + 1) := by
  obtain ⟨⟨l, D, ad, cA, N0⟩, p, e, R, s, m, args, below, meth, c, Q, cells, slots, nL⟩ := X
  obtain ⟨⟨hx, hb, hml, hown, hts⟩, hK, hN, hce, hsl, hRm, hnL, hNw⟩ := G
  intro P J K hR hJ hk ls st μ h
  unfold tz_ior at h
  split at h
  · intro la H locs hl hP hD hS; exact lv_ior hx hb hd (hk _ _ _ h la H locs hl hP hD hS)
  · exact h.elim
def tz_ixor : rz_T := fun P J K ls st μ => match st with
  | .int y :: .int x :: r => K ls (.int (x ^^^ y) :: r) μ
  | _ => False
theorem rz_ixor (G : rz_Cx cl X cc n Ts own rm) (hd : decode cc pc = .ok (.ixor, 1)) : rz_Snd sh cl X bp RT (tz_ixor) pc (pc + 1) := by
  obtain ⟨⟨l, D, ad, cA, N0⟩, p, e, R, s, m, args, below, meth, c, Q, cells, slots, nL⟩ := X
  obtain ⟨⟨hx, hb, hml, hown, hts⟩, hK, hN, hce, hsl, hRm, hnL, hNw⟩ := G
  intro P J K hR hJ hk ls st μ h
  unfold tz_ixor at h
  split at h
  · intro la H locs hl hP hD hS; exact lv_ixor hx hb hd (hk _ _ _ h la H locs hl hP hD hS)
  · exact h.elim
def tz_ishl : rz_T := fun P J K ls st μ => match st with
  | .int y :: .int x :: r => K ls (.int (x <<< (y &&& 31)) :: r) μ
  | _ => False
theorem rz_ishl (G : rz_Cx cl X cc n Ts own rm) (hd : decode cc pc = .ok (.ishl, 1)) : rz_Snd sh cl X bp RT (tz_ishl) pc (pc + 1) := by
  obtain ⟨⟨l, D, ad, cA, N0⟩, p, e, R, s, m, args, below, meth, c, Q, cells, slots, nL⟩ := X
  obtain ⟨⟨hx, hb, hml, hown, hts⟩, hK, hN, hce, hsl, hRm, hnL, hNw⟩ := G
  intro P J K hR hJ hk ls st μ h
  unfold tz_ishl at h
  split at h
  · intro la H locs hl hP hD hS; exact lv_ishl hx hb hd (hk _ _ _ h la H locs hl hP hD hS)
  · exact h.elim
def tz_ishr : rz_T := fun P J K ls st μ => match st with
  | .int y :: .int x :: r => K ls (.int (x >>> (y &&& 31)) :: r) μ
  | _ => False
theorem rz_ishr (G : rz_Cx cl X cc n Ts own rm) (hd : decode cc pc = .ok (.ishr, 1)) : rz_Snd sh cl X bp RT (tz_ishr) pc (pc + 1) := by
  obtain ⟨⟨l, D, ad, cA, N0⟩, p, e, R, s, m, args, below, meth, c, Q, cells, slots, nL⟩ := X
  obtain ⟨⟨hx, hb, hml, hown, hts⟩, hK, hN, hce, hsl, hRm, hnL, hNw⟩ := G
  intro P J K hR hJ hk ls st μ h
  unfold tz_ishr at h
  split at h
  · intro la H locs hl hP hD hS; exact lv_ishr hx hb hd (hk _ _ _ h la H locs hl hP hD hS)
  · exact h.elim
def tz_iushr : rz_T := fun P J K ls st μ => match st with
  | .int y :: .int x :: r => K ls (.int ((x.toUInt32 >>> (y.toUInt32 &&& Int32.toUInt32 31)).toInt32) :: r) μ
  | _ => False
theorem rz_iushr (G : rz_Cx cl X cc n Ts own rm) (hd : decode cc pc = .ok (.iushr, 1)) : rz_Snd sh cl X bp RT (tz_iushr) pc (pc + 1) := by
  obtain ⟨⟨l, D, ad, cA, N0⟩, p, e, R, s, m, args, below, meth, c, Q, cells, slots, nL⟩ := X
  obtain ⟨⟨hx, hb, hml, hown, hts⟩, hK, hN, hce, hsl, hRm, hnL, hNw⟩ := G
  intro P J K hR hJ hk ls st μ h
  unfold tz_iushr at h
  split at h
  · intro la H locs hl hP hD hS; exact lv_iushr hx hb hd rfl (hk _ _ _ h la H locs hl hP hD hS)
  · exact h.elim
def tz_lushr : rz_T := fun P J K ls st μ => match st with
  | .int y :: .long x :: r => K ls (.long ((x.toUInt64 >>> (y.toInt64.toUInt64 &&& Int64.toUInt64 63)).toInt64) :: r) μ
  | _ => False
theorem rz_lushr (G : rz_Cx cl X cc n Ts own rm) (hd : decode cc pc = .ok (.lushr, 1)) : rz_Snd sh cl X bp RT (tz_lushr) pc (pc + 1) := by
  obtain ⟨⟨l, D, ad, cA, N0⟩, p, e, R, s, m, args, below, meth, c, Q, cells, slots, nL⟩ := X
  obtain ⟨⟨hx, hb, hml, hown, hts⟩, hK, hN, hce, hsl, hRm, hnL, hNw⟩ := G
  intro P J K hR hJ hk ls st μ h
  unfold tz_lushr at h
  split at h
  · intro la H locs hl hP hD hS; exact lv_lushr hx hb hd rfl (hk _ _ _ h la H locs hl hP hD hS)
  · exact h.elim
def tz_lshl : rz_T := fun P J K ls st μ => match st with
  | .int y :: .long x :: r => K ls (.long (x <<< (y.toInt64 &&& 63)) :: r) μ
  | _ => False
theorem rz_lshl (G : rz_Cx cl X cc n Ts own rm) (hd : decode cc pc = .ok (.lshl, 1)) : rz_Snd sh cl X bp RT (tz_lshl) pc (pc + 1) := by
  obtain ⟨⟨l, D, ad, cA, N0⟩, p, e, R, s, m, args, below, meth, c, Q, cells, slots, nL⟩ := X
  obtain ⟨⟨hx, hb, hml, hown, hts⟩, hK, hN, hce, hsl, hRm, hnL, hNw⟩ := G
  intro P J K hR hJ hk ls st μ h
  unfold tz_lshl at h
  split at h
  · intro la H locs hl hP hD hS; exact lv_lshl hx hb hd rfl (hk _ _ _ h la H locs hl hP hD hS)
  · exact h.elim
def tz_lshr : rz_T := fun P J K ls st μ => match st with
  | .int y :: .long x :: r => K ls (.long (x >>> (y.toInt64 &&& 63)) :: r) μ
  | _ => False
theorem rz_lshr (G : rz_Cx cl X cc n Ts own rm) (hd : decode cc pc = .ok (.lshr, 1)) : rz_Snd sh cl X bp RT (tz_lshr) pc (pc + 1) := by
  obtain ⟨⟨l, D, ad, cA, N0⟩, p, e, R, s, m, args, below, meth, c, Q, cells, slots, nL⟩ := X
  obtain ⟨⟨hx, hb, hml, hown, hts⟩, hK, hN, hce, hsl, hRm, hnL, hNw⟩ := G
  intro P J K hR hJ hk ls st μ h
  unfold tz_lshr at h
  split at h
  · intro la H locs hl hP hD hS; exact lv_lshr hx hb hd rfl (hk _ _ _ h la H locs hl hP hD hS)
  · exact h.elim
def tz_land : rz_T := fun P J K ls st μ => match st with
  | .long y :: .long x :: r => K ls (.long (x &&& y) :: r) μ
  | _ => False
theorem rz_land (G : rz_Cx cl X cc n Ts own rm) (hd : decode cc pc = .ok (.land, 1)) : rz_Snd sh cl X bp RT (tz_land) pc (pc + 1) := by
  obtain ⟨⟨l, D, ad, cA, N0⟩, p, e, R, s, m, args, below, meth, c, Q, cells, slots, nL⟩ := X
  obtain ⟨⟨hx, hb, hml, hown, hts⟩, hK, hN, hce, hsl, hRm, hnL, hNw⟩ := G
  intro P J K hR hJ hk ls st μ h
  unfold tz_land at h
  split at h
  · intro la H locs hl hP hD hS; exact lv_land hx hb hd (hk _ _ _ h la H locs hl hP hD hS)
  · exact h.elim
def tz_lor : rz_T := fun P J K ls st μ => match st with
  | .long y :: .long x :: r => K ls (.long (x ||| y) :: r) μ
  | _ => False
theorem rz_lor (G : rz_Cx cl X cc n Ts own rm) (hd : decode cc pc = .ok (.lor, 1)) : rz_Snd sh cl X bp RT (tz_lor) pc (pc + 1) := by
  obtain ⟨⟨l, D, ad, cA, N0⟩, p, e, R, s, m, args, below, meth, c, Q, cells, slots, nL⟩ := X
  obtain ⟨⟨hx, hb, hml, hown, hts⟩, hK, hN, hce, hsl, hRm, hnL, hNw⟩ := G
  intro P J K hR hJ hk ls st μ h
  unfold tz_lor at h
  split at h
  · intro la H locs hl hP hD hS; exact lv_lor hx hb hd (hk _ _ _ h la H locs hl hP hD hS)
  · exact h.elim
def tz_lxor : rz_T := fun P J K ls st μ => match st with
  | .long y :: .long x :: r => K ls (.long (x ^^^ y) :: r) μ
  | _ => False
theorem rz_lxor (G : rz_Cx cl X cc n Ts own rm) (hd : decode cc pc = .ok (.lxor, 1)) : rz_Snd sh cl X bp RT (tz_lxor) pc (pc + 1) := by
  obtain ⟨⟨l, D, ad, cA, N0⟩, p, e, R, s, m, args, below, meth, c, Q, cells, slots, nL⟩ := X
  obtain ⟨⟨hx, hb, hml, hown, hts⟩, hK, hN, hce, hsl, hRm, hnL, hNw⟩ := G
  intro P J K hR hJ hk ls st μ h
  unfold tz_lxor at h
  split at h
  · intro la H locs hl hP hD hS; exact lv_lxor hx hb hd (hk _ _ _ h la H locs hl hP hD hS)
  · exact h.elim
def tz_ladd : rz_T := fun P J K ls st μ => match st with
  | .long y :: .long x :: r => K ls (.long (x + y) :: r) μ
  | _ => False
theorem rz_ladd (G : rz_Cx cl X cc n Ts own rm) (hd : decode cc pc = .ok (.ladd, 1)) : rz_Snd sh cl X bp RT (tz_ladd) pc (pc + 1) := by
  obtain ⟨⟨l, D, ad, cA, N0⟩, p, e, R, s, m, args, below, meth, c, Q, cells, slots, nL⟩ := X
  obtain ⟨⟨hx, hb, hml, hown, hts⟩, hK, hN, hce, hsl, hRm, hnL, hNw⟩ := G
  intro P J K hR hJ hk ls st μ h
  unfold tz_ladd at h
  split at h
  · intro la H locs hl hP hD hS; exact lv_ladd hx hb hd (hk _ _ _ h la H locs hl hP hD hS)
  · exact h.elim
def tz_l2i : rz_T := fun P J K ls st μ => match st with
  | .long x :: r => K ls (.int x.toInt32 :: r) μ
  | _ => False
theorem rz_l2i (G : rz_Cx cl X cc n Ts own rm) (hd : decode cc pc = .ok (.l2i, 1)) : rz_Snd sh cl X bp RT (tz_l2i) pc (pc + 1) := by
  obtain ⟨⟨l, D, ad, cA, N0⟩, p, e, R, s, m, args, below, meth, c, Q, cells, slots, nL⟩ := X
  obtain ⟨⟨hx, hb, hml, hown, hts⟩, hK, hN, hce, hsl, hRm, hnL, hNw⟩ := G
  intro P J K hR hJ hk ls st μ h
  unfold tz_l2i at h
  split at h
  · intro la H locs hl hP hD hS; exact lv_l2i hx hb hd rfl (hk _ _ _ h la H locs hl hP hD hS)
  · exact h.elim
def tz_i2l : rz_T := fun P J K ls st μ => match st with
  | .int x :: r => K ls (.long x.toInt64 :: r) μ
  | _ => False
theorem rz_i2l (G : rz_Cx cl X cc n Ts own rm) (hd : decode cc pc = .ok (.i2l, 1)) : rz_Snd sh cl X bp RT (tz_i2l) pc (pc + 1) := by
  obtain ⟨⟨l, D, ad, cA, N0⟩, p, e, R, s, m, args, below, meth, c, Q, cells, slots, nL⟩ := X
  obtain ⟨⟨hx, hb, hml, hown, hts⟩, hK, hN, hce, hsl, hRm, hnL, hNw⟩ := G
  intro P J K hR hJ hk ls st μ h
  unfold tz_i2l at h
  split at h
  · intro la H locs hl hP hD hS; exact lv_i2l hx hb hd rfl (hk _ _ _ h la H locs hl hP hD hS)
  · exact h.elim
def tz_ineg : rz_T := fun P J K ls st μ => match st with
  | .int x :: r => K ls (.int (-x) :: r) μ
  | _ => False
theorem rz_ineg (G : rz_Cx cl X cc n Ts own rm) (hd : decode cc pc = .ok (.ineg, 1)) : rz_Snd sh cl X bp RT (tz_ineg) pc (pc + 1) := by
  obtain ⟨⟨l, D, ad, cA, N0⟩, p, e, R, s, m, args, below, meth, c, Q, cells, slots, nL⟩ := X
  obtain ⟨⟨hx, hb, hml, hown, hts⟩, hK, hN, hce, hsl, hRm, hnL, hNw⟩ := G
  intro P J K hR hJ hk ls st μ h
  unfold tz_ineg at h
  split at h
  · intro la H locs hl hP hD hS; exact lv_ineg hx hb hd (hk _ _ _ h la H locs hl hP hD hS)
  · exact h.elim
def tz_idiv : rz_T := fun P J K ls st μ => match st with
  | .int y :: .int x :: r => ¬ y = 0 ∧ K ls (.int (x / y) :: r) μ
  | _ => False
theorem rz_idiv (G : rz_Cx cl X cc n Ts own rm) (hd : decode cc pc = .ok (.idiv, 1)) : rz_Snd sh cl X bp RT (tz_idiv) pc (pc + 1) := by
  obtain ⟨⟨l, D, ad, cA, N0⟩, p, e, R, s, m, args, below, meth, c, Q, cells, slots, nL⟩ := X
  obtain ⟨⟨hx, hb, hml, hown, hts⟩, hK, hN, hce, hsl, hRm, hnL, hNw⟩ := G
  intro P J K hR hJ hk ls st μ h
  unfold tz_idiv at h
  split at h
  · intro la H locs hl hP hD hS; exact lv_idiv hx hb hd h.1 (hk _ _ _ h.2 la H locs hl hP hD hS)
  · exact h.elim
def tz_irem : rz_T := fun P J K ls st μ => match st with
  | .int y :: .int x :: r => ¬ y = 0 ∧ K ls (.int (x - x / y * y) :: r) μ
  | _ => False
theorem rz_irem (G : rz_Cx cl X cc n Ts own rm) (hd : decode cc pc = .ok (.irem, 1)) : rz_Snd sh cl X bp RT (tz_irem) pc (pc + 1) := by
  obtain ⟨⟨l, D, ad, cA, N0⟩, p, e, R, s, m, args, below, meth, c, Q, cells, slots, nL⟩ := X
  obtain ⟨⟨hx, hb, hml, hown, hts⟩, hK, hN, hce, hsl, hRm, hnL, hNw⟩ := G
  intro P J K hR hJ hk ls st μ h
  unfold tz_irem at h
  split at h
  · intro la H locs hl hP hD hS; exact lv_irem hx hb hd h.1 (hk _ _ _ h.2 la H locs hl hP hD hS)
  · exact h.elim
def tz_ldc2 (v : Int64) : rz_T := fun _ _ K ls st μ => K ls (.long v :: st) μ
theorem rz_ldc2 {k : Nat} {v : Int64} (G : rz_Cx cl X cc n Ts own rm) (hc : Cond.constantLong own k v ∈ Ts) (hd : decode cc pc = .ok (.ldc2_w k, 3)) : rz_Snd sh cl X bp RT (tz_ldc2 v) pc (pc + 3) := by
  obtain ⟨⟨l, D, ad, cA, N0⟩, p, e, R, s, m, args, below, meth, c, Q, cells, slots, nL⟩ := X
  obtain ⟨⟨hx, hb, hml, hown, hts⟩, hK, hN, hce, hsl, hRm, hnL, hNw⟩ := G
  intro P J K hR hJ hk ls st μ h la H locs hl hP hD hS
  exact lv_ldc2 hx hb hown (hts _ hc) hd (hk _ _ _ h la H locs hl hP hD hS)
def rz_one (v : Value) : Bool := match v with
  | .long _ => false
  | .double _ => false
  | _ => true
theorem rz_one_cat {ad : Nat → Nat} {v : Value} (h : rz_one v = true) : (rz_v ad v).category = 1 := by cases v <;> first | rfl | cases h
def tz_dup : rz_T := fun _ _ K ls st μ => match st with
  | va :: r => (match rz_one va with
    | true => K ls (va :: va :: r) μ
    | false => False)
  | _ => False
theorem rz_dup (G : rz_Cx cl X cc n Ts own rm) (hd : decode cc pc = .ok (.dup, 1)) : rz_Snd sh cl X bp RT tz_dup pc (pc + 1) := by
  obtain ⟨⟨l, D, ad, cA, N0⟩, p, e, R, s, m, args, below, meth, c, Q, cells, slots, nL⟩ := X
  obtain ⟨⟨hx, hb, hml, hown, hts⟩, hK, hN, hce, hsl, hRm, hnL, hNw⟩ := G
  intro P J K hR hJ hk ls st μ h
  unfold tz_dup at h
  split at h
  · split at h
    · next hq =>
      have h1 := hq
      intro la H locs hl hP hD hS
      exact lv_dup hx hb hd (rz_one_cat h1) (hk _ _ _ h la H locs hl hP hD hS)
    · exact h.elim
  · exact h.elim
def tz_pop : rz_T := fun _ _ K ls st μ => match st with
  | va :: r => (match rz_one va with
    | true => K ls (r) μ
    | false => False)
  | _ => False
theorem rz_pop (G : rz_Cx cl X cc n Ts own rm) (hd : decode cc pc = .ok (.pop, 1)) : rz_Snd sh cl X bp RT tz_pop pc (pc + 1) := by
  obtain ⟨⟨l, D, ad, cA, N0⟩, p, e, R, s, m, args, below, meth, c, Q, cells, slots, nL⟩ := X
  obtain ⟨⟨hx, hb, hml, hown, hts⟩, hK, hN, hce, hsl, hRm, hnL, hNw⟩ := G
  intro P J K hR hJ hk ls st μ h
  unfold tz_pop at h
  split at h
  · split at h
    · next hq =>
      have h1 := hq
      intro la H locs hl hP hD hS
      exact lv_pop hx hb hd (rz_one_cat h1) (hk _ _ _ h la H locs hl hP hD hS)
    · exact h.elim
  · exact h.elim
def tz_dup_x1 : rz_T := fun _ _ K ls st μ => match st with
  | va :: vb :: r => (match rz_one va && rz_one vb with
    | true => K ls (va :: vb :: va :: r) μ
    | false => False)
  | _ => False
theorem rz_dup_x1 (G : rz_Cx cl X cc n Ts own rm) (hd : decode cc pc = .ok (.dup_x1, 1)) : rz_Snd sh cl X bp RT tz_dup_x1 pc (pc + 1) := by
  obtain ⟨⟨l, D, ad, cA, N0⟩, p, e, R, s, m, args, below, meth, c, Q, cells, slots, nL⟩ := X
  obtain ⟨⟨hx, hb, hml, hown, hts⟩, hK, hN, hce, hsl, hRm, hnL, hNw⟩ := G
  intro P J K hR hJ hk ls st μ h
  unfold tz_dup_x1 at h
  split at h
  · split at h
    · next hq =>
      obtain ⟨h1, h2⟩ := Bool.and_eq_true_iff.mp hq
      intro la H locs hl hP hD hS
      exact lv_dup_x1 hx hb hd (rz_one_cat h1) (rz_one_cat h2) (hk _ _ _ h la H locs hl hP hD hS)
    · exact h.elim
  · exact h.elim
def tz_dup_x2 : rz_T := fun _ _ K ls st μ => match st with
  | va :: vb :: vd :: r => (match rz_one va && rz_one vb && rz_one vd with
    | true => K ls (va :: vb :: vd :: va :: r) μ
    | false => False)
  | _ => False
theorem rz_dup_x2 (G : rz_Cx cl X cc n Ts own rm) (hd : decode cc pc = .ok (.dup_x2, 1)) : rz_Snd sh cl X bp RT tz_dup_x2 pc (pc + 1) := by
  obtain ⟨⟨l, D, ad, cA, N0⟩, p, e, R, s, m, args, below, meth, c, Q, cells, slots, nL⟩ := X
  obtain ⟨⟨hx, hb, hml, hown, hts⟩, hK, hN, hce, hsl, hRm, hnL, hNw⟩ := G
  intro P J K hR hJ hk ls st μ h
  unfold tz_dup_x2 at h
  split at h
  · split at h
    · next hq =>
      obtain ⟨h12, h3⟩ := Bool.and_eq_true_iff.mp hq; obtain ⟨h1, h2⟩ := Bool.and_eq_true_iff.mp h12
      intro la H locs hl hP hD hS
      exact lv_dup_x2 hx hb hd (rz_one_cat h1) (rz_one_cat h2) (rz_one_cat h3) (hk _ _ _ h la H locs hl hP hD hS)
    · exact h.elim
  · exact h.elim
def tz_dup2 : rz_T := fun _ _ K ls st μ => match st with
  | va :: vb :: r => (match rz_one va && rz_one vb with
    | true => K ls (va :: vb :: va :: vb :: r) μ
    | false => False)
  | _ => False
theorem rz_dup2 (G : rz_Cx cl X cc n Ts own rm) (hd : decode cc pc = .ok (.dup2, 1)) : rz_Snd sh cl X bp RT tz_dup2 pc (pc + 1) := by
  obtain ⟨⟨l, D, ad, cA, N0⟩, p, e, R, s, m, args, below, meth, c, Q, cells, slots, nL⟩ := X
  obtain ⟨⟨hx, hb, hml, hown, hts⟩, hK, hN, hce, hsl, hRm, hnL, hNw⟩ := G
  intro P J K hR hJ hk ls st μ h
  unfold tz_dup2 at h
  split at h
  · split at h
    · next hq =>
      obtain ⟨h1, h2⟩ := Bool.and_eq_true_iff.mp hq
      intro la H locs hl hP hD hS
      exact lv_dup2_11 hx hb hd (rz_one_cat h1) (rz_one_cat h2) (hk _ _ _ h la H locs hl hP hD hS)
    · exact h.elim
  · exact h.elim
def tz_icmp_eq (b : Nat) : rz_T := fun _ J K ls st μ => match st with
  | .int y :: .int x :: r => (x = y → J b ls r μ) ∧ (¬ x = y → K ls r μ)
  | _ => False
theorem rz_icmp_eq {off : Int} {b : Nat} (G : rz_Cx cl X cc n Ts own rm) (hd : decode cc pc = .ok (.if_icmp .eq off, 3)) (ht : (pc : Int) + off = (bp b : Int)) : rz_Snd sh cl X bp RT (tz_icmp_eq b) pc (pc + 3) := by
  obtain ⟨⟨l, D, ad, cA, N0⟩, p, e, R, s, m, args, below, meth, c, Q, cells, slots, nL⟩ := X
  obtain ⟨⟨hx, hb, hml, hown, hts⟩, hK, hN, hce, hsl, hRm, hnL, hNw⟩ := G
  intro P J K hR hJ hk ls st μ h
  unfold tz_icmp_eq at h
  split at h
  · intro la H locs hl hP hD hS; exact lv_icmp_eq hx hb hd ht (fun q => hJ b _ _ _ (h.1 q) la H locs hl hP hD hS) (fun q => hk _ _ _ (h.2 q) la H locs hl hP hD hS)
  · exact h.elim
def tz_icmp_ne (b : Nat) : rz_T := fun _ J K ls st μ => match st with
  | .int y :: .int x :: r => (¬ x = y → J b ls r μ) ∧ (x = y → K ls r μ)
  | _ => False
theorem rz_icmp_ne {off : Int} {b : Nat} (G : rz_Cx cl X cc n Ts own rm) (hd : decode cc pc = .ok (.if_icmp .ne off, 3)) (ht : (pc : Int) + off = (bp b : Int)) : rz_Snd sh cl X bp RT (tz_icmp_ne b) pc (pc + 3) := by
  obtain ⟨⟨l, D, ad, cA, N0⟩, p, e, R, s, m, args, below, meth, c, Q, cells, slots, nL⟩ := X
  obtain ⟨⟨hx, hb, hml, hown, hts⟩, hK, hN, hce, hsl, hRm, hnL, hNw⟩ := G
  intro P J K hR hJ hk ls st μ h
  unfold tz_icmp_ne at h
  split at h
  · intro la H locs hl hP hD hS; exact lv_icmp_ne hx hb hd ht (fun q => hJ b _ _ _ (h.1 q) la H locs hl hP hD hS) (fun q => hk _ _ _ (h.2 q) la H locs hl hP hD hS)
  · exact h.elim
def tz_icmp_lt (b : Nat) : rz_T := fun _ J K ls st μ => match st with
  | .int y :: .int x :: r => (x < y → J b ls r μ) ∧ (¬ x < y → K ls r μ)
  | _ => False
theorem rz_icmp_lt {off : Int} {b : Nat} (G : rz_Cx cl X cc n Ts own rm) (hd : decode cc pc = .ok (.if_icmp .lt off, 3)) (ht : (pc : Int) + off = (bp b : Int)) : rz_Snd sh cl X bp RT (tz_icmp_lt b) pc (pc + 3) := by
  obtain ⟨⟨l, D, ad, cA, N0⟩, p, e, R, s, m, args, below, meth, c, Q, cells, slots, nL⟩ := X
  obtain ⟨⟨hx, hb, hml, hown, hts⟩, hK, hN, hce, hsl, hRm, hnL, hNw⟩ := G
  intro P J K hR hJ hk ls st μ h
  unfold tz_icmp_lt at h
  split at h
  · intro la H locs hl hP hD hS; exact lv_icmp_lt hx hb hd ht (fun q => hJ b _ _ _ (h.1 q) la H locs hl hP hD hS) (fun q => hk _ _ _ (h.2 q) la H locs hl hP hD hS)
  · exact h.elim
def tz_icmp_ge (b : Nat) : rz_T := fun _ J K ls st μ => match st with
  | .int y :: .int x :: r => (y ≤ x → J b ls r μ) ∧ (¬ y ≤ x → K ls r μ)
  | _ => False
theorem rz_icmp_ge {off : Int} {b : Nat} (G : rz_Cx cl X cc n Ts own rm) (hd : decode cc pc = .ok (.if_icmp .ge off, 3)) (ht : (pc : Int) + off = (bp b : Int)) : rz_Snd sh cl X bp RT (tz_icmp_ge b) pc (pc + 3) := by
  obtain ⟨⟨l, D, ad, cA, N0⟩, p, e, R, s, m, args, below, meth, c, Q, cells, slots, nL⟩ := X
  obtain ⟨⟨hx, hb, hml, hown, hts⟩, hK, hN, hce, hsl, hRm, hnL, hNw⟩ := G
  intro P J K hR hJ hk ls st μ h
  unfold tz_icmp_ge at h
  split at h
  · intro la H locs hl hP hD hS; exact lv_icmp_ge hx hb hd ht (fun q => hJ b _ _ _ (h.1 q) la H locs hl hP hD hS) (fun q => hk _ _ _ (h.2 q) la H locs hl hP hD hS)
  · exact h.elim
def tz_icmp_gt (b : Nat) : rz_T := fun _ J K ls st μ => match st with
  | .int y :: .int x :: r => (y < x → J b ls r μ) ∧ (¬ y < x → K ls r μ)
  | _ => False
theorem rz_icmp_gt {off : Int} {b : Nat} (G : rz_Cx cl X cc n Ts own rm) (hd : decode cc pc = .ok (.if_icmp .gt off, 3)) (ht : (pc : Int) + off = (bp b : Int)) : rz_Snd sh cl X bp RT (tz_icmp_gt b) pc (pc + 3) := by
  obtain ⟨⟨l, D, ad, cA, N0⟩, p, e, R, s, m, args, below, meth, c, Q, cells, slots, nL⟩ := X
  obtain ⟨⟨hx, hb, hml, hown, hts⟩, hK, hN, hce, hsl, hRm, hnL, hNw⟩ := G
  intro P J K hR hJ hk ls st μ h
  unfold tz_icmp_gt at h
  split at h
  · intro la H locs hl hP hD hS; exact lv_icmp_gt hx hb hd ht (fun q => hJ b _ _ _ (h.1 q) la H locs hl hP hD hS) (fun q => hk _ _ _ (h.2 q) la H locs hl hP hD hS)
  · exact h.elim
def tz_icmp_le (b : Nat) : rz_T := fun _ J K ls st μ => match st with
  | .int y :: .int x :: r => (x ≤ y → J b ls r μ) ∧ (¬ x ≤ y → K ls r μ)
  | _ => False
theorem rz_icmp_le {off : Int} {b : Nat} (G : rz_Cx cl X cc n Ts own rm) (hd : decode cc pc = .ok (.if_icmp .le off, 3)) (ht : (pc : Int) + off = (bp b : Int)) : rz_Snd sh cl X bp RT (tz_icmp_le b) pc (pc + 3) := by
  obtain ⟨⟨l, D, ad, cA, N0⟩, p, e, R, s, m, args, below, meth, c, Q, cells, slots, nL⟩ := X
  obtain ⟨⟨hx, hb, hml, hown, hts⟩, hK, hN, hce, hsl, hRm, hnL, hNw⟩ := G
  intro P J K hR hJ hk ls st μ h
  unfold tz_icmp_le at h
  split at h
  · intro la H locs hl hP hD hS; exact lv_icmp_le hx hb hd ht (fun q => hJ b _ _ _ (h.1 q) la H locs hl hP hD hS) (fun q => hk _ _ _ (h.2 q) la H locs hl hP hD hS)
  · exact h.elim
def tz_if_eq (b : Nat) : rz_T := fun _ J K ls st μ => match st with
  | .int x :: r => (x = 0 → J b ls r μ) ∧ (¬ x = 0 → K ls r μ)
  | _ => False
theorem rz_if_eq {off : Int} {b : Nat} (G : rz_Cx cl X cc n Ts own rm) (hd : decode cc pc = .ok (.ifCond .eq off, 3)) (ht : (pc : Int) + off = (bp b : Int)) : rz_Snd sh cl X bp RT (tz_if_eq b) pc (pc + 3) := by
  obtain ⟨⟨l, D, ad, cA, N0⟩, p, e, R, s, m, args, below, meth, c, Q, cells, slots, nL⟩ := X
  obtain ⟨⟨hx, hb, hml, hown, hts⟩, hK, hN, hce, hsl, hRm, hnL, hNw⟩ := G
  intro P J K hR hJ hk ls st μ h
  unfold tz_if_eq at h
  split at h
  · intro la H locs hl hP hD hS; exact lv_if_eq hx hb hd ht (fun q => hJ b _ _ _ (h.1 q) la H locs hl hP hD hS) (fun q => hk _ _ _ (h.2 q) la H locs hl hP hD hS)
  · exact h.elim
def tz_if_ne (b : Nat) : rz_T := fun _ J K ls st μ => match st with
  | .int x :: r => (¬ x = 0 → J b ls r μ) ∧ (x = 0 → K ls r μ)
  | _ => False
theorem rz_if_ne {off : Int} {b : Nat} (G : rz_Cx cl X cc n Ts own rm) (hd : decode cc pc = .ok (.ifCond .ne off, 3)) (ht : (pc : Int) + off = (bp b : Int)) : rz_Snd sh cl X bp RT (tz_if_ne b) pc (pc + 3) := by
  obtain ⟨⟨l, D, ad, cA, N0⟩, p, e, R, s, m, args, below, meth, c, Q, cells, slots, nL⟩ := X
  obtain ⟨⟨hx, hb, hml, hown, hts⟩, hK, hN, hce, hsl, hRm, hnL, hNw⟩ := G
  intro P J K hR hJ hk ls st μ h
  unfold tz_if_ne at h
  split at h
  · intro la H locs hl hP hD hS; exact lv_if_ne hx hb hd ht (fun q => hJ b _ _ _ (h.1 q) la H locs hl hP hD hS) (fun q => hk _ _ _ (h.2 q) la H locs hl hP hD hS)
  · exact h.elim
def tz_if_lt (b : Nat) : rz_T := fun _ J K ls st μ => match st with
  | .int x :: r => (x < 0 → J b ls r μ) ∧ (¬ x < 0 → K ls r μ)
  | _ => False
theorem rz_if_lt {off : Int} {b : Nat} (G : rz_Cx cl X cc n Ts own rm) (hd : decode cc pc = .ok (.ifCond .lt off, 3)) (ht : (pc : Int) + off = (bp b : Int)) : rz_Snd sh cl X bp RT (tz_if_lt b) pc (pc + 3) := by
  obtain ⟨⟨l, D, ad, cA, N0⟩, p, e, R, s, m, args, below, meth, c, Q, cells, slots, nL⟩ := X
  obtain ⟨⟨hx, hb, hml, hown, hts⟩, hK, hN, hce, hsl, hRm, hnL, hNw⟩ := G
  intro P J K hR hJ hk ls st μ h
  unfold tz_if_lt at h
  split at h
  · intro la H locs hl hP hD hS; exact lv_if_lt hx hb hd ht (fun q => hJ b _ _ _ (h.1 q) la H locs hl hP hD hS) (fun q => hk _ _ _ (h.2 q) la H locs hl hP hD hS)
  · exact h.elim
def tz_if_ge (b : Nat) : rz_T := fun _ J K ls st μ => match st with
  | .int x :: r => (0 ≤ x → J b ls r μ) ∧ (¬ 0 ≤ x → K ls r μ)
  | _ => False
theorem rz_if_ge {off : Int} {b : Nat} (G : rz_Cx cl X cc n Ts own rm) (hd : decode cc pc = .ok (.ifCond .ge off, 3)) (ht : (pc : Int) + off = (bp b : Int)) : rz_Snd sh cl X bp RT (tz_if_ge b) pc (pc + 3) := by
  obtain ⟨⟨l, D, ad, cA, N0⟩, p, e, R, s, m, args, below, meth, c, Q, cells, slots, nL⟩ := X
  obtain ⟨⟨hx, hb, hml, hown, hts⟩, hK, hN, hce, hsl, hRm, hnL, hNw⟩ := G
  intro P J K hR hJ hk ls st μ h
  unfold tz_if_ge at h
  split at h
  · intro la H locs hl hP hD hS; exact lv_if_ge hx hb hd ht (fun q => hJ b _ _ _ (h.1 q) la H locs hl hP hD hS) (fun q => hk _ _ _ (h.2 q) la H locs hl hP hD hS)
  · exact h.elim
def tz_if_gt (b : Nat) : rz_T := fun _ J K ls st μ => match st with
  | .int x :: r => (0 < x → J b ls r μ) ∧ (¬ 0 < x → K ls r μ)
  | _ => False
theorem rz_if_gt {off : Int} {b : Nat} (G : rz_Cx cl X cc n Ts own rm) (hd : decode cc pc = .ok (.ifCond .gt off, 3)) (ht : (pc : Int) + off = (bp b : Int)) : rz_Snd sh cl X bp RT (tz_if_gt b) pc (pc + 3) := by
  obtain ⟨⟨l, D, ad, cA, N0⟩, p, e, R, s, m, args, below, meth, c, Q, cells, slots, nL⟩ := X
  obtain ⟨⟨hx, hb, hml, hown, hts⟩, hK, hN, hce, hsl, hRm, hnL, hNw⟩ := G
  intro P J K hR hJ hk ls st μ h
  unfold tz_if_gt at h
  split at h
  · intro la H locs hl hP hD hS; exact lv_if_gt hx hb hd ht (fun q => hJ b _ _ _ (h.1 q) la H locs hl hP hD hS) (fun q => hk _ _ _ (h.2 q) la H locs hl hP hD hS)
  · exact h.elim
def tz_if_le (b : Nat) : rz_T := fun _ J K ls st μ => match st with
  | .int x :: r => (x ≤ 0 → J b ls r μ) ∧ (¬ x ≤ 0 → K ls r μ)
  | _ => False
theorem rz_if_le {off : Int} {b : Nat} (G : rz_Cx cl X cc n Ts own rm) (hd : decode cc pc = .ok (.ifCond .le off, 3)) (ht : (pc : Int) + off = (bp b : Int)) : rz_Snd sh cl X bp RT (tz_if_le b) pc (pc + 3) := by
  obtain ⟨⟨l, D, ad, cA, N0⟩, p, e, R, s, m, args, below, meth, c, Q, cells, slots, nL⟩ := X
  obtain ⟨⟨hx, hb, hml, hown, hts⟩, hK, hN, hce, hsl, hRm, hnL, hNw⟩ := G
  intro P J K hR hJ hk ls st μ h
  unfold tz_if_le at h
  split at h
  · intro la H locs hl hP hD hS; exact lv_if_le hx hb hd ht (fun q => hJ b _ _ _ (h.1 q) la H locs hl hP hD hS) (fun q => hk _ _ _ (h.2 q) la H locs hl hP hD hS)
  · exact h.elim
def tz_goto (b : Nat) : rz_T := fun _ J _ ls st μ => J b ls st μ
theorem rz_goto {off : Int} {b : Nat} {npc : Nat} (G : rz_Cx cl X cc n Ts own rm) (hd : decode cc pc = .ok (.goto off, 3)) (ht : (pc : Int) + off = (bp b : Int)) : rz_Snd sh cl X bp RT (tz_goto b) pc npc := by
  obtain ⟨⟨l, D, ad, cA, N0⟩, p, e, R, s, m, args, below, meth, c, Q, cells, slots, nL⟩ := X
  obtain ⟨⟨hx, hb, hml, hown, hts⟩, hK, hN, hce, hsl, hRm, hnL, hNw⟩ := G
  intro P J K hR hJ hk ls st μ h la H locs hl hP hD hS
  exact lv_goto hx hb hd ht (hJ b _ _ _ h la H locs hl hP hD hS)
/-- a switch: the cases in their order, then the default -/
def rz_sw (J : Nat → rz_K) (d : Nat) (ls : rz_L) (st : List Value) (μ : rz_M) (x : Int32) : List (Int32 × Nat) → Prop
  | [] => J d ls st μ
  | (k, b) :: t => (x = k → J b ls st μ) ∧ (¬ x = k → rz_sw J d ls st μ x t)
def tz_sw (cs : List (Int32 × Nat)) (d : Nat) : rz_T := fun _ J _ ls st μ => match st with
  | .int x :: r => rz_sw J d ls r μ x cs
  | _ => False
theorem rz_sw_lk (pc : Nat) (bp : Nat → Nat) {J : Nat → rz_K} {d : Nat} {ls : rz_L} {st : List Value} {μ : rz_M} {x : Int32} : ∀ (cs : List (Int32 × Nat)), rz_sw J d ls st μ x cs →
    ∃ b, J b ls st μ ∧ (pc : Int) + Op.lookupswitch.offset (cs.map fun q => (q.1.toInt, (bp q.2 : Int) - pc)) ((bp d : Int) - pc) x.toInt = (bp b : Int)
  | [], h => ⟨d, h, by rw [List.map_nil, Op.lookupswitch.offset_nil]; omega⟩
  | (k, b) :: t, h => by
    by_cases hk : x = k
    · refine ⟨b, h.1 hk, ?_⟩
      rw [List.map_cons, Op.lookupswitch.offset_cons, if_pos (by rw [hk])]
      dsimp only
      omega
    · obtain ⟨b', h1, h2⟩ := rz_sw_lk pc bp t (h.2 hk)
      refine ⟨b', h1, ?_⟩
      rw [List.map_cons, lv_osw hk rfl]
      exact h2
theorem rz_lookup {cs : List (Int32 × Nat)} {d : Nat} {dflt : Int} {ps : Array (Int × Int)} {len npc : Nat} (G : rz_Cx cl X cc n Ts own rm) (hd : decode cc pc = .ok (.lookupswitch dflt ps, len)) (hp : (ps.toList.zip (ps.toList.drop 1)).all (fun (a, next) => a.1 < next.1) = true)
    (h1 : ps.toList = cs.map fun q => (q.1.toInt, (bp q.2 : Int) - pc)) (h2 : dflt = (bp d : Int) - pc) : rz_Snd sh cl X bp RT (tz_sw cs d) pc npc := by
  obtain ⟨⟨l, D, ad, cA, N0⟩, p, e, R, s, m, args, below, meth, c, Q, cells, slots, nL⟩ := X
  obtain ⟨⟨hx, hb, hml, hown, hts⟩, hK, hN, hce, hsl, hRm, hnL, hNw⟩ := G
  intro P J K hR hJ hk ls st μ h
  unfold tz_sw at h
  split at h
  · next x r =>
    intro la H locs hl hP hD hS
    obtain ⟨b, hb1, hb2⟩ := rz_sw_lk pc bp cs h
    refine lv_lookup hx hb hd hp (off := Op.lookupswitch.offset ps.toList dflt x.toInt) rfl (tgt := bp b) ?_ (hJ b _ _ _ hb1 la H locs hl hP hD hS)
    rw [h1, h2]; exact hb2
  · exact h.elim
theorem rz_sw_tb {J : Nat → rz_K} {d : Nat} {ls : rz_L} {st : List Value} {μ : rz_M} {x : Int32} : ∀ (cs : List (Int32 × Nat)), rz_sw J d ls st μ x cs →
    (∃ (i : Nat) (k : Int32) (b : Nat), cs[i]? = some (k, b) ∧ x = k ∧ J b ls st μ) ∨ ((∀ q ∈ cs, ¬ x = q.1) ∧ J d ls st μ)
  | [], h => Or.inr ⟨fun q hq => by simp at hq, h⟩
  | (k, b) :: t, h => by
    by_cases hk : x = k
    · exact Or.inl ⟨0, k, b, rfl, hk, h.1 hk⟩
    · rcases rz_sw_tb t (h.2 hk) with ⟨i, k', b', h1, h2, h3⟩ | ⟨h1, h2⟩
      · exact Or.inl ⟨i + 1, k', b', by simpa using h1, h2, h3⟩
      · exact Or.inr ⟨fun q hq => by
          rcases List.mem_cons.mp hq with rfl | hq
          · exact hk
          · exact h1 q hq, h2⟩
theorem rz_table {cs : List (Int32 × Nat)} {d : Nat} {dflt lo hi : Int} {offs : Array Int} {len npc : Nat} (G : rz_Cx cl X cc n Ts own rm) (hd : decode cc pc = .ok (.tableswitch dflt lo hi offs, len))
    (h1 : offs.toList = cs.map fun q => ((bp q.2 : Int) - pc)) (h2 : dflt = (bp d : Int) - pc) (h3 : cs.mapIdx (fun i q => q.1.toInt - lo - (i : Int)) = cs.map (fun _ => 0)) (h4 : hi = lo + (cs.length : Int) - 1) (h5 : ∀ i, i < cs.length → ∃ q ∈ cs, q.1.toInt = lo + (i : Int)) : rz_Snd sh cl X bp RT (tz_sw cs d) pc npc := by
  obtain ⟨⟨l, D, ad, cA, N0⟩, p, e, R, s, m, args, below, meth, c, Q, cells, slots, nL⟩ := X
  obtain ⟨⟨hx, hb, hml, hown, hts⟩, hK, hN, hce, hsl, hRm, hnL, hNw⟩ := G
  intro P J K hR hJ hk ls st μ h
  unfold tz_sw at h
  split at h
  · next x r =>
    intro la H locs hl hP hD hS
    rcases rz_sw_tb cs h with ⟨i, k, b, e1, e2, e3⟩ | ⟨e1, e2⟩
    · have hi' : i < cs.length := (List.getElem?_eq_some_iff.mp e1).1
      have g : k.toInt - lo - (i : Int) = 0 := by
        have a1 := congrArg (fun z => z[i]?) h3
        simp only [List.getElem?_mapIdx, List.getElem?_map, e1, Option.map_some] at a1
        exact Option.some.inj a1
      subst e2
      have ho : offs[(x.toInt - lo).toNat]? = some ((bp b : Int) - pc) := by
        rw [show (x.toInt - lo).toNat = i by omega, ← Array.getElem?_toList, h1, List.getElem?_map, e1]; rfl
      exact lv_tableIn hx hb hd (by omega) (by omega) ho (tgt := bp b) (by omega) (hJ b _ _ _ e3 la H locs hl hP hD hS)
    · have hout : x.toInt < lo ∨ hi < x.toInt := by
        rcases Int.lt_or_le x.toInt lo with q | q
        · exact Or.inl q
        · rcases Int.lt_or_le hi x.toInt with q2 | q2
          · exact Or.inr q2
          · exfalso
            obtain ⟨z, hz, hz2⟩ := h5 (x.toInt - lo).toNat (by omega)
            exact e1 z hz (Int32.toInt_inj.mp (by rw [hz2]; omega))
      exact lv_tableOut hx hb hd hout (tgt := bp d) (by omega) (hJ d _ _ _ e2 la H locs hl hP hD hS)
  · exact h.elim
def rz_fld (sh : List rz_Sh) (ci k j : Nat) : Option (Option Nat) := match rz_nth sh k with
  | some (.inr (c, fs)) => (match Nat.beq c ci with
    | true => rz_nth fs j
    | false => none)
  | _ => none
theorem rz_fld_spec {ci k j : Nat} {o : Option Nat} (h : rz_fld sh ci k j = some o) : ∃ fs, sh[k]? = some (.inr (ci, fs)) ∧ fs[j]? = some o := by
  unfold rz_fld at h
  split at h
  · next c fs hq =>
    split at h
    · next hb =>
      rw [rz_nth_eq] at hq h
      have : c = ci := Nat.eq_of_beq_eq_true hb
      subst this
      exact ⟨fs, hq, h⟩
    · cases h
  · cases h
def tz_get (sh : List rz_Sh) (ci j : Nat) : rz_T := fun _ _ K ls st μ => match st with
  | .ref k :: r => (match rz_fld sh ci k j with
    | some (some o) => K ls (.ref o :: r) μ
    | some none => K ls (.int (μ k j) :: r) μ
    | none => False)
  | _ => False
theorem rz_get0 {ci j index : Nat} {C : String} {T : u_T} {N : Nat} (G : rz_Cx cl X cc n Ts own rm) (hc : cl[ci]? = some (C, T, N)) (hin : ∀ w ∈ u_ws C T N, w ∈ Ts) (hj : j < N) 
    (row : ∀ (p : Program) (l : Launch) (e : Env) (R : Room) (s : State) (m : MethodId) (args : Array Value) (below : List Frame) (meth : Method) (c : Code) (H : Heap) (locs : List Loc) (cells slots : Nat) (Q : State → Prop) (D : va_G) (tys : List (ClassId × FieldType)) (ws : va_W) (la : Array Slot) (rest : List Value) (a k : Nat) (fs : List Value) (v : Value), p.tables.exec = Jvm.exec → c.code = cc → s.vm.findClass own = some m.cls → (∀ w ∈ Ts, w.before args s = true) → (∀ w ∈ rz_nw, va_Nw w s) → va_K D cl tys s → va_P D cl ws H → ws[k]? = some (a, .inr (ci, fs)) → fs[j]? = some v → W p l e R s m args below meth c H locs cells slots Q (F0 m (pc + 3) la (v :: rest)) → W p l e R s m args below meth c H locs cells slots Q (F0 m pc la (.ref a :: rest))) : rz_Snd sh cl X bp RT (tz_get sh ci j) pc (pc + 3) := by
  obtain ⟨⟨l, D, ad, cA, N0⟩, p, e, R, s, m, args, below, meth, c, Q, cells, slots, nL⟩ := X
  obtain ⟨⟨hx, hb, hml, hown, hts⟩, hK, hN, hce, hsl, hRm, hnL, hNw⟩ := G
  intro P J K hR hJ hk ls st μ h
  unfold tz_get at h
  split at h
  · next k r =>
    split at h
    · next o hq =>
      obtain ⟨fs, h1, h2⟩ := rz_fld_spec hq
      intro la H locs hl hP hD hS
      exact row _ _ _ _ _ _ _ _ _ _ _ _ _ _ _ _ _ _ _ _ _ k _ (.ref (ad o)) hx hb hown hts hNw hK hP (rz_ws_at h1) (by rw [List.getElem?_mapIdx, h2]; rfl) (hk _ _ _ h la H locs hl hP hD hS)
    · next hq =>
      obtain ⟨fs, h1, h2⟩ := rz_fld_spec hq
      intro la H locs hl hP hD hS
      exact row _ _ _ _ _ _ _ _ _ _ _ _ _ _ _ _ _ _ _ _ _ k _ (.int (μ k j)) hx hb hown hts hNw hK hP (rz_ws_at h1) (by rw [List.getElem?_mapIdx, h2]; rfl) (hk _ _ _ h la H locs hl hP hD hS)
    · exact h.elim
  · exact h.elim
theorem rz_get {ci j index : Nat} {C : String} {T : u_T} {N : Nat} (G : rz_Cx cl X cc n Ts own rm) (hc : cl[ci]? = some (C, T, N)) (hin : ∀ w ∈ u_ws C T N, w ∈ Ts) (hj : j < N) (hw : Cond.fieldLink own index (T j).1 (T j).2.1 (T j).2.2.1 ∈ Ts) (hd : decode cc pc = .ok (.getfield index, 3)) : rz_Snd sh cl X bp RT (tz_get sh ci j) pc (pc + 3) :=
  rz_get0 (index := index) G hc hin hj (fun p l e R s m args below meth c H locs cells slots Q D tys ws la rest a k fs v hx hb hown hts hNw hK hP he hv kk => va_get (D := D) hx hb hts hin hown hK hP k he hc j hj (hts _ hw) (fun _ h9 => h9) hv hd kk)
theorem rz_getN {ci j index : Nat} {C host : String} {T : u_T} {N : Nat} (G : rz_Cx cl X cc n Ts own rm) (hc : cl[ci]? = some (C, T, N)) (hin : ∀ w ∈ u_ws C T N, w ∈ Ts) (hj : j < N) (hw : Cond.fieldLinkNest own index (T j).1 (T j).2.1 (T j).2.2.1 host ∈ rz_nw) (hd : decode cc pc = .ok (.getfield index, 3)) : rz_Snd sh cl X bp RT (tz_get sh ci j) pc (pc + 3) :=
  rz_get0 (index := index) G hc hin hj (fun p l e R s m args below meth c H locs cells slots Q D tys ws la rest a k fs v hx hb hown hts hNw hK hP he hv kk => va_getN (D := D) hx hb hts hin hown hK hP k he hc j hj (va_Nw.use rfl (hNw _ hw)) (fun _ h9 => h9) hv hd kk)
def tz_put (sh : List rz_Sh) (ci j : Nat) : rz_T := fun _ _ K ls st μ => match st with
  | .int x :: .ref k :: r => (match rz_fld sh ci k j with
    | some none => K ls r (rz_up μ k j x)
    | _ => False)
  | _ => False
def tz_putz (sh : List rz_Sh) (ci j : Nat) : rz_T := fun _ _ K ls st μ => match st with
  | .int x :: .ref k :: r => (match rz_fld sh ci k j with
    | some none => (x = 0 ∨ x = 1) ∧ K ls r (rz_up μ k j x)
    | _ => False)
  | _ => False
theorem rz_ws_put {ad : Nat → Nat} {cA : ClassId} {μ : rz_M} {k j ci : Nat} {fs : List (Option Nat)} {x : Int32} (h1 : sh[k]? = some (.inr (ci, fs))) (h2 : fs[j]? = some none) :
    (rz_ws ad cA sh μ).set k (ad k, .inr (ci, (fs.mapIdx (rz_fv ad (μ k))).set j (.int x))) = rz_ws ad cA sh (rz_up μ k j x) := by
  have h3 := rz_ws_set (ad := ad) (cA := cA) (μ := μ) (f := upd (μ k) j x) h1
  have h4 : rz_e ad cA (rz_uf μ k (upd (μ k) j x)) k (.inr (ci, fs)) = (ad k, .inr (ci, (fs.mapIdx (rz_fv ad (μ k))).set j (.int x))) := by
    rw [rz_fv_set h2]; simp [rz_e, rz_uf_eq]
  rw [h4] at h3
  exact h3
theorem rz_put {ci j index : Nat} {C : String} {T : u_T} {N : Nat} (G : rz_Cx cl X cc n Ts own rm) (hc : cl[ci]? = some (C, T, N)) (hin : ∀ w ∈ u_ws C T N, w ∈ Ts) (ty0 : Nat → FieldType) (hty : ∀ k, k < N → parseFieldDescriptor (T k).2.2.1 = some (ty0 k)) (hnm : ∀ a, a < N → ∀ b, b < N → a ≠ b → (T a).2.1 ≠ (T b).2.1) (hj : j < N) (hfin : (T j).2.2.2 = false) (hpd : parseFieldDescriptor (T j).2.2.1 = some .int) (hw : Cond.fieldLink own index (T j).1 (T j).2.1 (T j).2.2.1 ∈ Ts) (hd : decode cc pc = .ok (.putfield index, 3)) : rz_Snd sh cl X bp RT (tz_put sh ci j) pc (pc + 3) := by
  obtain ⟨⟨l, D, ad, cA, N0⟩, p, e, R, s, m, args, below, meth, c, Q, cells, slots, nL⟩ := X
  obtain ⟨⟨hx, hb, hml, hown, hts⟩, hK, hN, hce, hsl, hRm, hnL, hNw⟩ := G
  intro P J K hR hJ hk ls st μ h
  unfold tz_put at h
  split at h
  · next x k r =>
    split at h
    · next hq =>
      obtain ⟨fs, h1, h2⟩ := rz_fld_spec hq
      intro la H locs hl hP hD hS
      refine va_put (D := D) hx hb hts hin ty0 hty hnm hown hK hP hD hS k (rz_ws_at h1) hc j hj (hts _ hw) (fun _ h9 => h9) hfin hpd (v := .int x) rfl rfl (by rw [List.length_mapIdx]; exact (List.getElem?_eq_some_iff.mp h2).1) hd (fun H1 locs1 hP1 hD1 hS1 => ?_)
      exact hk _ _ _ h la H1 locs1 hl (by rw [← rz_ws_put h1 h2]; exact hP1) (by rw [← rz_ws_put h1 h2]; exact hD1) hS1
    · exact h.elim
  · exact h.elim
theorem rz_putN {ci j index : Nat} {C host : String} {T : u_T} {N : Nat} (G : rz_Cx cl X cc n Ts own rm) (hc : cl[ci]? = some (C, T, N)) (hin : ∀ w ∈ u_ws C T N, w ∈ Ts) (ty0 : Nat → FieldType) (hty : ∀ k, k < N → parseFieldDescriptor (T k).2.2.1 = some (ty0 k)) (hnm : ∀ a, a < N → ∀ b, b < N → a ≠ b → (T a).2.1 ≠ (T b).2.1) (hj : j < N) (hfin : (T j).2.2.2 = false) (hpd : parseFieldDescriptor (T j).2.2.1 = some .int) (hw : Cond.fieldLinkNest own index (T j).1 (T j).2.1 (T j).2.2.1 host ∈ rz_nw) (hd : decode cc pc = .ok (.putfield index, 3)) : rz_Snd sh cl X bp RT (tz_put sh ci j) pc (pc + 3) := by
  obtain ⟨⟨l, D, ad, cA, N0⟩, p, e, R, s, m, args, below, meth, c, Q, cells, slots, nL⟩ := X
  obtain ⟨⟨hx, hb, hml, hown, hts⟩, hK, hN, hce, hsl, hRm, hnL, hNw⟩ := G
  intro P J K hR hJ hk ls st μ h
  unfold tz_put at h
  split at h
  · next x k r =>
    split at h
    · next hq =>
      obtain ⟨fs, h1, h2⟩ := rz_fld_spec hq
      intro la H locs hl hP hD hS
      refine va_putN (D := D) hx hb hts hin ty0 hty hnm hown hK hP hD hS k (rz_ws_at h1) hc j hj (va_Nw.use rfl (hNw _ hw)) (fun _ h9 => h9) hfin hpd (v := .int x) rfl rfl (by rw [List.length_mapIdx]; exact (List.getElem?_eq_some_iff.mp h2).1) hd (fun H1 locs1 hP1 hD1 hS1 => ?_)
      exact hk _ _ _ h la H1 locs1 hl (by rw [← rz_ws_put h1 h2]; exact hP1) (by rw [← rz_ws_put h1 h2]; exact hD1) hS1
    · exact h.elim
  · exact h.elim
theorem rz_putz {ci j index : Nat} {C : String} {T : u_T} {N : Nat} (G : rz_Cx cl X cc n Ts own rm) (hc : cl[ci]? = some (C, T, N)) (hin : ∀ w ∈ u_ws C T N, w ∈ Ts) (ty0 : Nat → FieldType) (hty : ∀ k, k < N → parseFieldDescriptor (T k).2.2.1 = some (ty0 k)) (hnm : ∀ a, a < N → ∀ b, b < N → a ≠ b → (T a).2.1 ≠ (T b).2.1) (hj : j < N) (hfin : (T j).2.2.2 = false) (hpd : parseFieldDescriptor (T j).2.2.1 = some .boolean) (hw : Cond.fieldLink own index (T j).1 (T j).2.1 (T j).2.2.1 ∈ Ts) (hd : decode cc pc = .ok (.putfield index, 3)) : rz_Snd sh cl X bp RT (tz_putz sh ci j) pc (pc + 3) := by
  obtain ⟨⟨l, D, ad, cA, N0⟩, p, e, R, s, m, args, below, meth, c, Q, cells, slots, nL⟩ := X
  obtain ⟨⟨hx, hb, hml, hown, hts⟩, hK, hN, hce, hsl, hRm, hnL, hNw⟩ := G
  intro P J K hR hJ hk ls st μ h
  unfold tz_putz at h
  split at h
  · next x k r =>
    split at h
    · next hq =>
      obtain ⟨fs, h1, h2⟩ := rz_fld_spec hq
      intro la H locs hl hP hD hS
      refine va_put (D := D) hx hb hts hin ty0 hty hnm hown hK hP hD hS k (rz_ws_at h1) hc j hj (hts _ hw) (fun _ h9 => h9) hfin hpd (v := .int x) (by rcases h.1 with rfl | rfl <;> rfl) (by rcases h.1 with rfl | rfl <;> rfl) (by rw [List.length_mapIdx]; exact (List.getElem?_eq_some_iff.mp h2).1) hd (fun H1 locs1 hP1 hD1 hS1 => ?_)
      exact hk _ _ _ h.2 la H1 locs1 hl (by rw [← rz_ws_put h1 h2]; exact hP1) (by rw [← rz_ws_put h1 h2]; exact hD1) hS1
    · exact h.elim
  · exact h.elim
theorem rz_putzN {ci j index : Nat} {C host : String} {T : u_T} {N : Nat} (G : rz_Cx cl X cc n Ts own rm) (hc : cl[ci]? = some (C, T, N)) (hin : ∀ w ∈ u_ws C T N, w ∈ Ts) (ty0 : Nat → FieldType) (hty : ∀ k, k < N → parseFieldDescriptor (T k).2.2.1 = some (ty0 k)) (hnm : ∀ a, a < N → ∀ b, b < N → a ≠ b → (T a).2.1 ≠ (T b).2.1) (hj : j < N) (hfin : (T j).2.2.2 = false) (hpd : parseFieldDescriptor (T j).2.2.1 = some .boolean) (hw : Cond.fieldLinkNest own index (T j).1 (T j).2.1 (T j).2.2.1 host ∈ rz_nw) (hd : decode cc pc = .ok (.putfield index, 3)) : rz_Snd sh cl X bp RT (tz_putz sh ci j) pc (pc + 3) := by
  obtain ⟨⟨l, D, ad, cA, N0⟩, p, e, R, s, m, args, below, meth, c, Q, cells, slots, nL⟩ := X
  obtain ⟨⟨hx, hb, hml, hown, hts⟩, hK, hN, hce, hsl, hRm, hnL, hNw⟩ := G
  intro P J K hR hJ hk ls st μ h
  unfold tz_putz at h
  split at h
  · next x k r =>
    split at h
    · next hq =>
      obtain ⟨fs, h1, h2⟩ := rz_fld_spec hq
      intro la H locs hl hP hD hS
      refine va_putN (D := D) hx hb hts hin ty0 hty hnm hown hK hP hD hS k (rz_ws_at h1) hc j hj (va_Nw.use rfl (hNw _ hw)) (fun _ h9 => h9) hfin hpd (v := .int x) (by rcases h.1 with rfl | rfl <;> rfl) (by rcases h.1 with rfl | rfl <;> rfl) (by rw [List.length_mapIdx]; exact (List.getElem?_eq_some_iff.mp h2).1) hd (fun H1 locs1 hP1 hD1 hS1 => ?_)
      exact hk _ _ _ h.2 la H1 locs1 hl (by rw [← rz_ws_put h1 h2]; exact hP1) (by rw [← rz_ws_put h1 h2]; exact hD1) hS1
    · exact h.elim
  · exact h.elim
def rz_arr (sh : List rz_Sh) (k : Nat) : Option Nat := match rz_nth sh k with
  | some (.inl n) => some n
  | _ => none
theorem rz_arr_spec {k n0 : Nat} (h : rz_arr sh k = some n0) : sh[k]? = some (.inl n0) := by
  unfold rz_arr at h
  split at h
  · next a hq => rw [rz_nth_eq] at hq; rw [hq, Option.some.inj h]
  · cases h
def tz_iald (sh : List rz_Sh) : rz_T := fun _ _ K ls st μ => match st with
  | .int i :: .ref k :: r => (match rz_arr sh k with
    | some n0 => vp_in i n0 ∧ K ls (.int (μ k i.toNatClampNeg) :: r) μ
    | none => False)
  | _ => False
theorem rz_iald (G : rz_Cx cl X cc n Ts own rm) (hd : decode cc pc = .ok (.iaload, 1)) : rz_Snd sh cl X bp RT (tz_iald sh) pc (pc + 1) := by
  obtain ⟨⟨l, D, ad, cA, N0⟩, p, e, R, s, m, args, below, meth, c, Q, cells, slots, nL⟩ := X
  obtain ⟨⟨hx, hb, hml, hown, hts⟩, hK, hN, hce, hsl, hRm, hnL, hNw⟩ := G
  intro P J K hR hJ hk ls st μ h
  unfold tz_iald at h
  split at h
  · next i k r =>
    split at h
    · next n0 hq =>
      intro la H locs hl hP hD hS
      exact va_iald (D := D) hx hb hK hP k 0 (rz_ws_at (rz_arr_spec hq)) rfl h.1 hd (hk _ _ _ h.2 la H locs hl hP hD hS)
    · exact h.elim
  · exact h.elim
def tz_iast (sh : List rz_Sh) : rz_T := fun _ _ K ls st μ => match st with
  | .int x :: .int i :: .ref k :: r => (match rz_arr sh k with
    | some n0 => vp_in i n0 ∧ K ls r (rz_up μ k i.toNatClampNeg x)
    | none => False)
  | _ => False
theorem rz_ws_arr {ad : Nat → Nat} {cA : ClassId} {μ : rz_M} {k n0 : Nat} {f : Nat → Int32} (h1 : sh[k]? = some (.inl n0)) :
    (rz_ws ad cA sh μ).set k (ad k, .inl (cA, n0, .inl f)) = rz_ws ad cA sh (rz_uf μ k f) := by
  have h3 := rz_ws_set (ad := ad) (cA := cA) (μ := μ) (f := f) h1
  have h4 : rz_e ad cA (rz_uf μ k f) k (.inl n0) = (ad k, .inl (cA, n0, .inl f)) := by
    simp [rz_e, rz_uf_eq]
  rw [h4] at h3
  exact h3
theorem rz_iast (G : rz_Cx cl X cc n Ts own rm) (hd : decode cc pc = .ok (.iastore, 1)) : rz_Snd sh cl X bp RT (tz_iast sh) pc (pc + 1) := by
  obtain ⟨⟨l, D, ad, cA, N0⟩, p, e, R, s, m, args, below, meth, c, Q, cells, slots, nL⟩ := X
  obtain ⟨⟨hx, hb, hml, hown, hts⟩, hK, hN, hce, hsl, hRm, hnL, hNw⟩ := G
  intro P J K hR hJ hk ls st μ h
  unfold tz_iast at h
  split at h
  · next x i k r =>
    split at h
    · next n0 hq =>
      intro la H locs hl hP hD hS
      refine va_iast (D := D) hx hb hK hP hD hS k 0 (rz_ws_at (rz_arr_spec hq)) rfl h.1 hd (fun H1 locs1 hP1 hD1 hS1 => ?_)
      have e1 := rz_ws_arr (ad := ad) (cA := cA) (μ := μ) (f := upd (μ k) i.toNatClampNeg x) (rz_arr_spec hq)
      exact hk _ _ _ h.2 la H1 locs1 hl (by unfold rz_up; rw [← e1]; exact hP1) (by unfold rz_up; rw [← e1]; exact hD1) hS1
    · exact h.elim
  · exact h.elim
def tz_alen (sh : List rz_Sh) : rz_T := fun _ _ K ls st μ => match st with
  | .ref k :: r => (match rz_arr sh k with
    | some n0 => K ls (.int (Int32.ofNat n0) :: r) μ
    | none => False)
  | _ => False
theorem rz_alen (G : rz_Cx cl X cc n Ts own rm) (hd : decode cc pc = .ok (.arraylength, 1)) : rz_Snd sh cl X bp RT (tz_alen sh) pc (pc + 1) := by
  obtain ⟨⟨l, D, ad, cA, N0⟩, p, e, R, s, m, args, below, meth, c, Q, cells, slots, nL⟩ := X
  obtain ⟨⟨hx, hb, hml, hown, hts⟩, hK, hN, hce, hsl, hRm, hnL, hNw⟩ := G
  intro P J K hR hJ hk ls st μ h
  unfold tz_alen at h
  split at h
  · next k r =>
    split at h
    · next n0 hq =>
      intro la H locs hl hP hD hS
      exact va_alen (D := D) hx hb hK hP k 0 (rz_ws_at (rz_arr_spec hq)) rfl rfl hd (hk _ _ _ h la H locs hl hP hD hS)
    · exact h.elim
  · exact h.elim
def rz_cs : List Value → Nat
  | [] => 0
  | v :: t => v.category + rz_cs t
theorem rz_cs_eq (ad : Nat → Nat) : ∀ st : List Value, ((st.map (rz_v ad)).map fun v => v.category).sum = rz_cs st
  | [] => rfl
  | v :: t => by rw [List.map_cons, List.map_cons, List.sum_cons, rz_cs_eq ad t, rz_v_cat]; rfl
def tz_min : rz_T := fun _ _ K ls st μ => match st with
  | .int y :: .int x :: r => (match Nat.ble (rz_cs r) 8 with
    | true => K ls (.int (if y < x then y else x) :: r) μ
    | false => False)
  | _ => False
theorem rz_min {index : Nat} (G : rz_Cx cl X cc n Ts own rm) (h1 : Cond.methodLink own index Lib.Math.min.name ∈ Ts) (h2 : Cond.static Lib.Math.min.name ∈ Ts) (h3 : Cond.initialized "java/lang/Math" ∈ Ts) (h4 : Cond.code Lib.Math.min.name Lib.Math.min.code 2 (some .int) ∈ Ts) (hf : 1 ≤ rm.frames ∧ 21 ≤ rm.locals) (hd : decode cc pc = .ok (.invokestatic index, 3)) : rz_Snd sh cl X bp RT tz_min pc (pc + 3) := by
  obtain ⟨⟨l, D, ad, cA, N0⟩, p, e, R, s, m, args, below, meth, c, Q, cells, slots, nL⟩ := X
  obtain ⟨⟨hx, hb, hml, hown, hts⟩, hK, hN, hce, hsl, hRm, hnL, hNw⟩ := G
  subst hRm
  intro P J K hR hJ hk ls st μ h
  unfold tz_min at h
  split at h
  · next y x r =>
    split at h
    · next hq =>
      intro la H locs hl hP hD hS
      refine va_mmin hx hb (by rw [hml, hl.1]) hown (hts _ h1) (hts _ h2) (hts _ h3) (hts _ h4) hf.1 ?_ hce hsl hd (hk _ _ _ h la H locs hl hP hD hS)
      rw [rz_cs_eq]
      have := Nat.le_of_ble_eq_true hq
      omega
    · exact h.elim
  · exact h.elim
def tz_copy (sh : List rz_Sh) : rz_T := fun _ _ K ls st μ => match st with
  | .int c :: .int dp :: .ref k1 :: .int sp :: .ref k0 :: r => (match rz_arr sh k0, rz_arr sh k1, Nat.ble (rz_cs r) 8 with
    | some n0, some n1, true => (¬ sp < 0 ∧ ¬ dp < 0 ∧ ¬ c < 0 ∧ sp.toNatClampNeg + c.toNatClampNeg ≤ n0 ∧ dp.toNatClampNeg + c.toNatClampNeg ≤ n1) ∧ K ls r (rz_uf μ k1 (va_cpy (μ k0) (μ k1) sp.toNatClampNeg dp.toNatClampNeg c.toNatClampNeg))
    | _, _, _ => False)
  | _ => False
theorem rz_copy {index : Nat} (G : rz_Cx cl X cc n Ts own rm) (h1 : Cond.methodLink own index arraycopyName ∈ Ts) (h2 : Cond.native arraycopyName ∈ Ts) (h3 : Cond.static arraycopyName ∈ Ts) (h4 : Cond.initialized "java/lang/System" ∈ Ts) (hf : 1 ≤ rm.frames ∧ 8 + (nativeFrameWords "java/lang/System" "arraycopy" 5 + 11) ≤ rm.locals) (hd : decode cc pc = .ok (.invokestatic index, 3)) : rz_Snd sh cl X bp RT (tz_copy sh) pc (pc + 3) := by
  obtain ⟨⟨l, D, ad, cA, N0⟩, p, e, R, s, m, args, below, meth, c, Q, cells, slots, nL⟩ := X
  obtain ⟨⟨hx, hb, hml, hown, hts⟩, hK, hN, hce, hsl, hRm, hnL, hNw⟩ := G
  subst hRm
  intro P J K hR hJ hk ls st μ h
  unfold tz_copy at h
  split at h
  · next cn dp k1 sp k0 r =>
    split at h
    · next n0 n1 hq0 hq1 hq2 =>
      obtain ⟨⟨a1, a2, a3, a4, a5⟩, h⟩ := h
      intro la H locs hl hP hD hS
      refine va_copyi (D := D) hx hb (by rw [hml, hl.1]) hown (hts _ h1) (hts _ h2) (hts _ h3) (hts _ h4) hK hP hD hS k0 k1 0 0 (rz_ws_at (rz_arr_spec hq0)) (rz_ws_at (rz_arr_spec hq1)) rfl rfl rfl a1 a2 a3 a4 a5 (fun _ _ => rfl) hf.1 ?_ hd (fun H1 locs1 hP1 hD1 hS1 => ?_)
      · rw [rz_cs_eq]
        have := Nat.le_of_ble_eq_true hq2
        omega
      · have e1 := rz_ws_arr (ad := ad) (cA := cA) (μ := μ) (f := va_cpy (μ k0) (μ k1) sp.toNatClampNeg dp.toNatClampNeg cn.toNatClampNeg) (rz_arr_spec hq1)
        exact hk _ _ _ h la H1 locs1 hl (by rw [← e1]; exact hP1) (by rw [← e1]; exact hD1) hS1
    · exact h.elim
  · exact h.elim
end RZ
