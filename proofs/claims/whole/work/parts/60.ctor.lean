/-! THE CONSTRUCTORS, by the kit's rows (by program, wip/gen/gen_ctor.py) -/
def rz_mwq : List (String × Nat × MethodName × String) := [("TornCard", 9, ⟨"TornCard$Link", "<init>", "()V"⟩, "TornCard"), ("TornCard", 18, ⟨"TornCard$Worker", "<init>", "()V"⟩, "TornCard"), ("TornCard$Worker", 11, ⟨"TornCard$Memory", "<init>", "()V"⟩, "TornCard"), ("TornCard$Worker", 20, ⟨"TornCard$Command", "<init>", "()V"⟩, "TornCard"), ("TornCard$Worker", 27, ⟨"TornCard$Answer", "<init>", "()V"⟩, "TornCard")]
def rz_mw : List Cond := rz_mwq.map (fun q => .methodLinkNest q.1 q.2.1 q.2.2.1 q.2.2.2)
theorem rz_mw_tab (w : Cond) (h : w ∈ rz_mw) : w.onTables = true := by
  obtain ⟨q, -, rfl⟩ := List.mem_map.mp h
  rfl
theorem rz_mw_warm (w : Cond) (h : w ∈ rz_mw) {s U : State} (hW : s.WarmedH U.vm) (hZ : va_Nw w s) : va_Nw w U := by
  obtain ⟨q, -, rfl⟩ := List.mem_map.mp h
  exact va_Nw.warmM hW hZ
def NWA (U : State) : Prop := (∀ w ∈ rz_nw, va_Nw w U) ∧ ∀ w ∈ rz_mw, va_Nw w U
theorem nwa_same {u U : State} (h : u.vm = U.vm) (q : NWA u) : NWA U := ⟨fun w hw => va_Nw.same (rz_nw_tab w hw) h (q.1 w hw), fun w hw => va_Nw.same (rz_mw_tab w hw) h (q.2 w hw)⟩
theorem nwa_warm {s U : State} (hW : s.WarmedH U.vm) (q : NWA s) : NWA U := ⟨fun w hw => rz_nw_warm w hw hW (q.1 w hw), fun w hw => rz_mw_warm w hw hW (q.2 w hw)⟩
/-- a new int array: its class is the one that is known -/
theorem nw_arr {p : Program} {l : Launch} {e : Env} {R : Room} {s : State} {m : MethodId} {args : Array Value} {below : List Frame} {meth : Method} {c : Code} {H : Heap} {locs : List Loc} {cells slots : Nat} {Q : State → Prop} {cc : ByteArray} {pc : Nat} {ls : Array Slot} {rest : List Value} {D : va_G} {cl : List vw_C} {A : Nat → Prop} {ws : va_W} {H0 : Heap} {cA : ClassId}
    (hexec : p.tables.exec = Jvm.exec) (hb : c.code = cc) (harr : (Cond.arrayClass .int).before args s = true) (hK : va_K D cl [(cA, .int)] s) (hP : va_P D cl ws H) (hD : va_D A ws) (hS : va_S A H0 H locs) (hA : ∀ q, H0.size ≤ q → A q)
    {n : Int32} {N' : Nat} (hn : ¬ n < 0) (hN : n.toNatClampNeg = N') (hbytes : N' * componentBytes .int ≤ 536870912) (hcells : cells + 1 ≤ R.cells) (hslots : slots + N' ≤ R.slots) (hdg : decode cc pc = .ok (.newarray .int, 2))
    (kk : ∀ (q : Nat) (H1 : Heap), va_P D cl (ws ++ [(q, .inl (cA, N', .inl (fun _ => 0)))]) H1 → va_D A (ws ++ [(q, .inl (cA, N', .inl (fun _ => 0)))]) → va_S A H0 H1 locs →
      W p l e R s m args below meth c H1 locs (cells + 1) (slots + N') Q (F0 m (pc + 2) ls (.ref q :: rest))) : W p l e R s m args below meth c H locs cells slots Q (F0 m pc ls (.int n :: rest)) :=
  va_newa (atype := .int) (ty := .int) (a0 := (N', .inl (fun _ => 0))) hexec hb harr rfl hK hP hD hS hA (fun cA => vp_cell_i cA N' (fun _ => 0)) hn hN hbytes hcells hslots hdg (fun q cA' H1 hK' hP' hD' hS' => by
    have e1 : s.vm.findClass ("[" ++ FieldType.int.toString) = some cA' := (hK'.2 1 (cA', .int) rfl).2
    have e2 : s.vm.findClass ("[" ++ FieldType.int.toString) = some cA := (hK'.2 0 (cA, .int) rfl).2
    have : cA' = cA := Option.some.inj (e1.symm.trans e2)
    subst this
    exact kk q H1 hP' hD' hS')
theorem mw_0 : Cond.methodLinkNest "TornCard" 9 y_Li_init "TornCard" ∈ rz_mw := List.mem_of_getElem? (i := 0) rfl
theorem mw_1 : Cond.methodLinkNest "TornCard" 18 y_Wo_init "TornCard" ∈ rz_mw := List.mem_of_getElem? (i := 1) rfl
theorem mw_2 : Cond.methodLinkNest "TornCard$Worker" 11 y_Me_init "TornCard" ∈ rz_mw := List.mem_of_getElem? (i := 2) rfl
theorem mw_3 : Cond.methodLinkNest "TornCard$Worker" 20 y_Co_init "TornCard" ∈ rz_mw := List.mem_of_getElem? (i := 3) rfl
theorem mw_4 : Cond.methodLinkNest "TornCard$Worker" 27 y_An_init "TornCard" ∈ rz_mw := List.mem_of_getElem? (i := 4) rfl
theorem rz_mw_in : ∀ w ∈ rz_mw, w ∈ lw_tbl := by
  intro w hw
  have h1 : rz_mw.map some = [60, 102, 108, 193, 219].map (fun i => lw_tbl[i]?) := by decide +kernel
  have h2 : some w ∈ rz_mw.map some := List.mem_map.mpr ⟨w, hw, rfl⟩
  rw [h1] at h2
  obtain ⟨i, -, hi⟩ := List.mem_map.mp h2
  exact List.mem_of_getElem? hi
theorem df_An : ∀ j, j < 3 → defaultValue (ty_An j) = vp_V [.null, .int 0, .int 0] j := by
  intro j hj
  rcases (show j = 0 ∨ j = 1 ∨ j = 2 by omega) with rfl | rfl | rfl <;> rfl
theorem df_Co : ∀ j, j < 5 → defaultValue (ty_Co j) = vp_V [.null, .int 0, .int 0, .int 0, .int 0] j := by
  intro j hj
  rcases (show j = 0 ∨ j = 1 ∨ j = 2 ∨ j = 3 ∨ j = 4 by omega) with rfl | rfl | rfl | rfl | rfl <;> rfl
theorem df_Fi : ∀ j, j < 7 → defaultValue (ty_Fi j) = vp_V [.null, .null, .null, .null, .null, .null, .int 0] j := by
  intro j hj
  rcases (show j = 0 ∨ j = 1 ∨ j = 2 ∨ j = 3 ∨ j = 4 ∨ j = 5 ∨ j = 6 by omega) with rfl | rfl | rfl | rfl | rfl | rfl | rfl <;> rfl
theorem df_Li : ∀ j, j < 9 → defaultValue (ty_Li j) = vp_V [.null, .int 0, .null, .int 0, .null, .int 0, .int 0, .int 0, .int 0] j := by
  intro j hj
  rcases (show j = 0 ∨ j = 1 ∨ j = 2 ∨ j = 3 ∨ j = 4 ∨ j = 5 ∨ j = 6 ∨ j = 7 ∨ j = 8 by omega) with rfl | rfl | rfl | rfl | rfl | rfl | rfl | rfl | rfl <;> rfl
theorem df_Me : ∀ j, j < 11 → defaultValue (ty_Me j) = vp_V [.null, .null, .int 0, .int 0, .int 0, .int 0, .int 0, .int 0, .int 0, .int 0, .int 0] j := by
  intro j hj
  rcases (show j = 0 ∨ j = 1 ∨ j = 2 ∨ j = 3 ∨ j = 4 ∨ j = 5 ∨ j = 6 ∨ j = 7 ∨ j = 8 ∨ j = 9 ∨ j = 10 by omega) with rfl | rfl | rfl | rfl | rfl | rfl | rfl | rfl | rfl | rfl | rfl <;> rfl
theorem df_Wo : ∀ j, j < 6 → defaultValue (ty_Wo j) = vp_V [.null, .null, .null, .int 0, .int 0, .int 0] j := by
  intro j hj
  rcases (show j = 0 ∨ j = 1 ∨ j = 2 ∨ j = 3 ∨ j = 4 ∨ j = 5 by omega) with rfl | rfl | rfl | rfl | rfl | rfl <;> rfl
theorem df_Ca : ∀ j, j < 5 → defaultValue (ty_Ca j) = vp_V [.null, .null, .null, .int 0, .int 0] j := by
  intro j hj
  rcases (show j = 0 ∨ j = 1 ∨ j = 2 ∨ j = 3 ∨ j = 4 by omega) with rfl | rfl | rfl | rfl | rfl <;> rfl
theorem df_Mo : ∀ j, j < 37 → defaultValue (ty_Mo j) = vp_V [.null, .null, .null, .null, .null, .null, .int 0, .int 0, .int 0, .int 0, .int 0, .int 0, .int 0, .null, .int 0, .int 0, .int 0, .int 0, .int 0, .int 0, .int 0, .int 0, .int 0, .int 0, .int 0, .null, .null, .null, .null, .null, .int 0, .int 0, .int 0, .int 0, .int 0, .int 0, .int 0] j := by
  intro j hj
  rcases (show j = 0 ∨ j = 1 ∨ j = 2 ∨ j = 3 ∨ j = 4 ∨ j = 5 ∨ j = 6 ∨ j = 7 ∨ j = 8 ∨ j = 9 ∨ j = 10 ∨ j = 11 ∨ j = 12 ∨ j = 13 ∨ j = 14 ∨ j = 15 ∨ j = 16 ∨ j = 17 ∨ j = 18 ∨ j = 19 ∨ j = 20 ∨ j = 21 ∨ j = 22 ∨ j = 23 ∨ j = 24 ∨ j = 25 ∨ j = 26 ∨ j = 27 ∨ j = 28 ∨ j = 29 ∨ j = 30 ∨ j = 31 ∨ j = 32 ∨ j = 33 ∨ j = 34 ∨ j = 35 ∨ j = 36 by omega) with rfl | rfl | rfl | rfl | rfl | rfl | rfl | rfl | rfl | rfl | rfl | rfl | rfl | rfl | rfl | rfl | rfl | rfl | rfl | rfl | rfl | rfl | rfl | rfl | rfl | rfl | rfl | rfl | rfl | rfl | rfl | rfl | rfl | rfl | rfl | rfl | rfl <;> rfl
theorem wd_50 : Cond.classLink R_Lw 7 R_Ca ∈ rz_tbl := rz_in 50 (by decide +kernel) rfl
theorem wd_51 : Cond.instantiable R_Ca 5 ∈ rz_tbl := rz_in 51 (by decide +kernel) rfl
theorem wd_52 : Cond.methodLink R_Lw 9 y_Ca_init ∈ rz_tbl := rz_in 52 (by decide +kernel) rfl
theorem wd_53 : Cond.instanceMethod y_Ca_init ∈ rz_tbl := rz_in 53 (by decide +kernel) rfl
theorem wd_54 : Cond.code y_Ca_init c_Ca_init 1 none ∈ rz_tbl := rz_in 54 (by decide +kernel) rfl
theorem wd_55 : Cond.methodLink R_Ca 1 Lib.objectInit ∈ rz_tbl := rz_in 55 (by decide +kernel) rfl
theorem wd_56 : Cond.instanceMethod Lib.objectInit ∈ rz_tbl := rz_in 56 (by decide +kernel) rfl
theorem wd_57 : Cond.code Lib.objectInit ⟨#[0xb1]⟩ 1 none ∈ rz_tbl := rz_in 57 (by decide +kernel) rfl
theorem wd_58 : Cond.classLink R_Ca 7 R_Li ∈ rz_tbl := rz_in 58 (by decide +kernel) rfl
theorem wd_59 : Cond.instantiable R_Li 9 ∈ rz_tbl := rz_in 59 (by decide +kernel) rfl
theorem wd_61 : Cond.instanceMethod y_Li_init ∈ rz_tbl := rz_in 61 (by decide +kernel) rfl
theorem wd_62 : Cond.code y_Li_init c_Li_init 1 none ∈ rz_tbl := rz_in 62 (by decide +kernel) rfl
theorem wd_63 : Cond.methodLink R_Li 5 Lib.objectInit ∈ rz_tbl := rz_in 63 (by decide +kernel) rfl
theorem wd_99 : Cond.arrayClass .int ∈ rz_tbl := rz_in 99 (by decide +kernel) rfl
theorem wd_100 : Cond.classLink R_Ca 16 R_Wo ∈ rz_tbl := rz_in 100 (by decide +kernel) rfl
theorem wd_101 : Cond.instantiable R_Wo 6 ∈ rz_tbl := rz_in 101 (by decide +kernel) rfl
theorem wd_103 : Cond.instanceMethod y_Wo_init ∈ rz_tbl := rz_in 103 (by decide +kernel) rfl
theorem wd_104 : Cond.code y_Wo_init c_Wo_init 1 none ∈ rz_tbl := rz_in 104 (by decide +kernel) rfl
theorem wd_105 : Cond.methodLink R_Wo 3 Lib.objectInit ∈ rz_tbl := rz_in 105 (by decide +kernel) rfl
theorem wd_106 : Cond.classLink R_Wo 9 R_Me ∈ rz_tbl := rz_in 106 (by decide +kernel) rfl
theorem wd_107 : Cond.instantiable R_Me 11 ∈ rz_tbl := rz_in 107 (by decide +kernel) rfl
theorem wd_109 : Cond.instanceMethod y_Me_init ∈ rz_tbl := rz_in 109 (by decide +kernel) rfl
theorem wd_110 : Cond.code y_Me_init c_Me_init 1 none ∈ rz_tbl := rz_in 110 (by decide +kernel) rfl
theorem wd_111 : Cond.methodLink R_Me 3 Lib.objectInit ∈ rz_tbl := rz_in 111 (by decide +kernel) rfl
theorem wd_112 : Cond.classLink R_Me 9 R_Fi ∈ rz_tbl := rz_in 112 (by decide +kernel) rfl
theorem wd_113 : Cond.instantiable R_Fi 7 ∈ rz_tbl := rz_in 113 (by decide +kernel) rfl
theorem wd_114 : Cond.methodLink R_Me 11 y_Fi_init ∈ rz_tbl := rz_in 114 (by decide +kernel) rfl
theorem wd_115 : Cond.instanceMethod y_Fi_init ∈ rz_tbl := rz_in 115 (by decide +kernel) rfl
theorem wd_116 : Cond.code y_Fi_init c_Fi_init 1 none ∈ rz_tbl := rz_in 116 (by decide +kernel) rfl
theorem wd_117 : Cond.methodLink R_Fi 3 Lib.objectInit ∈ rz_tbl := rz_in 117 (by decide +kernel) rfl
theorem wd_159 : Cond.fieldLink R_Me 22 "TornCard$Memory" "tries" "I" ∈ rz_tbl := rz_in 159 (by decide +kernel) rfl
theorem wd_191 : Cond.classLink R_Wo 18 R_Co ∈ rz_tbl := rz_in 191 (by decide +kernel) rfl
theorem wd_192 : Cond.instantiable R_Co 5 ∈ rz_tbl := rz_in 192 (by decide +kernel) rfl
theorem wd_194 : Cond.instanceMethod y_Co_init ∈ rz_tbl := rz_in 194 (by decide +kernel) rfl
theorem wd_195 : Cond.code y_Co_init c_Co_init 1 none ∈ rz_tbl := rz_in 195 (by decide +kernel) rfl
theorem wd_196 : Cond.methodLink R_Co 3 Lib.objectInit ∈ rz_tbl := rz_in 196 (by decide +kernel) rfl
theorem wd_217 : Cond.classLink R_Wo 25 R_An ∈ rz_tbl := rz_in 217 (by decide +kernel) rfl
theorem wd_218 : Cond.instantiable R_An 3 ∈ rz_tbl := rz_in 218 (by decide +kernel) rfl
theorem wd_220 : Cond.instanceMethod y_An_init ∈ rz_tbl := rz_in 220 (by decide +kernel) rfl
theorem wd_221 : Cond.code y_An_init c_An_init 1 none ∈ rz_tbl := rz_in 221 (by decide +kernel) rfl
theorem wd_222 : Cond.methodLink R_An 1 Lib.objectInit ∈ rz_tbl := rz_in 222 (by decide +kernel) rfl
theorem wd_613 : Cond.classLink R_Lw 10 R_Mo ∈ rz_tbl := rz_in 613 (by decide +kernel) rfl
theorem wd_614 : Cond.instantiable R_Mo 37 ∈ rz_tbl := rz_in 614 (by decide +kernel) rfl
theorem wd_615 : Cond.methodLink R_Lw 12 y_Mo_init ∈ rz_tbl := rz_in 615 (by decide +kernel) rfl
theorem wd_616 : Cond.instanceMethod y_Mo_init ∈ rz_tbl := rz_in 616 (by decide +kernel) rfl
theorem wd_617 : Cond.code y_Mo_init c_Mo_init 1 none ∈ rz_tbl := rz_in 617 (by decide +kernel) rfl
theorem wd_618 : Cond.methodLink R_Mo 1 Lib.objectInit ∈ rz_tbl := rz_in 618 (by decide +kernel) rfl
