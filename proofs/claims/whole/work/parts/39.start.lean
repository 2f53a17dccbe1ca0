def R_law : String := "CoinSorterLaw"
def lw_P (b : Addr) (xs : List Int32) (args : Array Value) (s : State) : Prop := args = #[.ref b] ∧ s.IntsAt b xs ∧ xs.length ≤ 3072 ∧ (Jvm.Cond.and given_1 narrow_1).before args s = true
def lw_Q (_ : Array Value) (s : State) (o : Outcome) (t : State) : Prop := o = .returned (some (.int 1)) ∧ Framed s o t [] 601024 7293034
def lw_Z (below : List Frame) (a : Array Value) (s : State) : State → Prop := fun t => ∃ o, t.status = .running ∧ Ended t below o ∧ lw_Q a s o t
/-- the law's own end, with 1 on the stack, nothing written that was there before, its room as the claim has it -/
theorem lw_ret {p : Program} {l : Launch} {e : Env} {s : State} {m : MethodId} {below : List Frame} {meth : Method} {c : Code} {b : Nat} (hx : p.tables.exec = Jvm.exec) (hb : c.code = code) (hr : meth.sig.returnType = ret) (hlocks : meth.locks = false) {pc : Nat} {H : Heap} {ls : Array Slot} (hdg : decode code pc = .ok (.ireturn, 1)) : W p l e room_1 s m #[Value.ref b] below meth c H [] 601024 7293034 (lw_Z below #[Value.ref b] s) (F0 m pc ls [.int 1]) := by
  intro T hT X
  obtain ⟨fs, hret, hrun, hended, hW, hframe⟩ := X.leave (v := some (.int 1)) (hlocks := hlocks) (fun h => by rw [hr] at h; cases h)
  have hmeth' : T.vm.method? m = some meth := X.method'
  refine ⟨T.setFrames fs, ?_, .returned (some (.int 1)), hrun, hended, rfl, ⟨_, rfl⟩, hW, hframe⟩
  jvm_step X.here [X.here.top, hx, hb, hdg, hmeth', hr, ret, narrow_b1]
  (try refine ⟨rfl, ?_⟩); (try refine ⟨rfl, ?_⟩)
  first | (intro acts; rw [hret _ acts rfl rfl rfl]) | rw [hret _ _ rfl rfl rfl]
  exact Steps.refl _
/-- what holds at the law's entry: the machine, the code, the tables' words (any of lw_tbl by 'hts w (by decide +kernel)'), the script of L ints xs at the cell b, what the Statement gives of the start (any of its parts by flat_of_before) -/
def lw_At (p : Program) (s : State) (m : MethodId) (meth : Method) (c : Code) (b L : Nat) (xs : Nat → Int32) : Prop :=
  p.tables.exec = Jvm.exec ∧ c.code = code ∧ meth.sig.returnType = ret ∧ c.maxLocals = 7 ∧ s.vm.findClass R_law = some m.cls ∧ (∀ w ∈ lw_tbl, w.before #[Value.ref b] s = true) ∧ va_X b L xs s s.heap ∧ b < s.heap.size ∧ meth.locks = false ∧ (Jvm.Cond.and given_1 narrow_1).before #[Value.ref b] s = true
abbrev fl_N : List Cond := flatC (Jvm.Cond.and given_1 narrow_1)
theorem fx_ex0 : Cond.exactly (Term.string "CoinSorterModel" 129) "java/lang/String" ∈ fl_N := by decide +kernel
theorem fx_co0 : Cond.eq (.field (Term.string "CoinSorterModel" 129) "java/lang/String" "coder" "B") (.int 0) ∈ fl_N := by decide +kernel
theorem fx_ar0 : Cond.arrayOf (.field (Term.string "CoinSorterModel" 129) "java/lang/String" "value" "[B") .byte ∈ fl_N := by decide +kernel
theorem fx_le0 : Cond.eq (.length (.field (Term.string "CoinSorterModel" 129) "java/lang/String" "value" "[B")) (.int 4) ∈ fl_N := by decide +kernel
theorem fx_el0_0 : Cond.eq (.elem (.field (Term.string "CoinSorterModel" 129) "java/lang/String" "value" "[B") (.int 0)) (.int 116) ∈ fl_N := by decide +kernel
theorem fx_el0_1 : Cond.eq (.elem (.field (Term.string "CoinSorterModel" 129) "java/lang/String" "value" "[B") (.int 1)) (.int 121) ∈ fl_N := by decide +kernel
theorem fx_el0_2 : Cond.eq (.elem (.field (Term.string "CoinSorterModel" 129) "java/lang/String" "value" "[B") (.int 2)) (.int 112) ∈ fl_N := by decide +kernel
theorem fx_el0_3 : Cond.eq (.elem (.field (Term.string "CoinSorterModel" 129) "java/lang/String" "value" "[B") (.int 3)) (.int 101) ∈ fl_N := by decide +kernel
theorem fx_ne0_1 : Cond.not (.eq (Term.string "CoinSorterModel" 129) (Term.string "CoinSorterModel" 139)) ∈ fl_N := by decide +kernel
theorem fx_ne0_2 : Cond.not (.eq (Term.string "CoinSorterModel" 129) (Term.string "CoinSorterModel" 141)) ∈ fl_N := by decide +kernel
theorem fx_ne0_3 : Cond.not (.eq (Term.string "CoinSorterModel" 129) (Term.string "CoinSorterModel" 143)) ∈ fl_N := by decide +kernel
theorem fx_ne0_4 : Cond.not (.eq (Term.string "CoinSorterModel" 129) (Term.string "CoinSorterModel" 149)) ∈ fl_N := by decide +kernel
theorem fx_ne0_5 : Cond.not (.eq (Term.string "CoinSorterModel" 129) (Term.string "CoinSorterModel" 151)) ∈ fl_N := by decide +kernel
theorem fx_eq0 : Cond.eq (Term.string "CoinSorter$Parser" 41) (Term.string "CoinSorterModel" 129) ∈ fl_N := by decide +kernel
theorem fx_pe0 : Cond.exactly (Term.string "CoinSorter$Parser" 41) "java/lang/String" ∈ fl_N := by decide +kernel
theorem fx_ex1 : Cond.exactly (Term.string "CoinSorterModel" 139) "java/lang/String" ∈ fl_N := by decide +kernel
theorem fx_co1 : Cond.eq (.field (Term.string "CoinSorterModel" 139) "java/lang/String" "coder" "B") (.int 0) ∈ fl_N := by decide +kernel
theorem fx_ar1 : Cond.arrayOf (.field (Term.string "CoinSorterModel" 139) "java/lang/String" "value" "[B") .byte ∈ fl_N := by decide +kernel
theorem fx_le1 : Cond.eq (.length (.field (Term.string "CoinSorterModel" 139) "java/lang/String" "value" "[B")) (.int 4) ∈ fl_N := by decide +kernel
theorem fx_el1_0 : Cond.eq (.elem (.field (Term.string "CoinSorterModel" 139) "java/lang/String" "value" "[B") (.int 0)) (.int 102) ∈ fl_N := by decide +kernel
theorem fx_el1_1 : Cond.eq (.elem (.field (Term.string "CoinSorterModel" 139) "java/lang/String" "value" "[B") (.int 1)) (.int 97) ∈ fl_N := by decide +kernel
theorem fx_el1_2 : Cond.eq (.elem (.field (Term.string "CoinSorterModel" 139) "java/lang/String" "value" "[B") (.int 2)) (.int 107) ∈ fl_N := by decide +kernel
theorem fx_el1_3 : Cond.eq (.elem (.field (Term.string "CoinSorterModel" 139) "java/lang/String" "value" "[B") (.int 3)) (.int 101) ∈ fl_N := by decide +kernel
theorem fx_ne1_2 : Cond.not (.eq (Term.string "CoinSorterModel" 139) (Term.string "CoinSorterModel" 141)) ∈ fl_N := by decide +kernel
theorem fx_ne1_3 : Cond.not (.eq (Term.string "CoinSorterModel" 139) (Term.string "CoinSorterModel" 143)) ∈ fl_N := by decide +kernel
theorem fx_ne1_4 : Cond.not (.eq (Term.string "CoinSorterModel" 139) (Term.string "CoinSorterModel" 149)) ∈ fl_N := by decide +kernel
theorem fx_ne1_5 : Cond.not (.eq (Term.string "CoinSorterModel" 139) (Term.string "CoinSorterModel" 151)) ∈ fl_N := by decide +kernel
theorem fx_eq1 : Cond.eq (Term.string "CoinSorter$Parser" 57) (Term.string "CoinSorterModel" 139) ∈ fl_N := by decide +kernel
theorem fx_pe1 : Cond.exactly (Term.string "CoinSorter$Parser" 57) "java/lang/String" ∈ fl_N := by decide +kernel
theorem fx_ex2 : Cond.exactly (Term.string "CoinSorterModel" 141) "java/lang/String" ∈ fl_N := by decide +kernel
theorem fx_co2 : Cond.eq (.field (Term.string "CoinSorterModel" 141) "java/lang/String" "coder" "B") (.int 0) ∈ fl_N := by decide +kernel
theorem fx_ar2 : Cond.arrayOf (.field (Term.string "CoinSorterModel" 141) "java/lang/String" "value" "[B") .byte ∈ fl_N := by decide +kernel
theorem fx_le2 : Cond.eq (.length (.field (Term.string "CoinSorterModel" 141) "java/lang/String" "value" "[B")) (.int 3) ∈ fl_N := by decide +kernel
theorem fx_el2_0 : Cond.eq (.elem (.field (Term.string "CoinSorterModel" 141) "java/lang/String" "value" "[B") (.int 0)) (.int 98) ∈ fl_N := by decide +kernel
theorem fx_el2_1 : Cond.eq (.elem (.field (Term.string "CoinSorterModel" 141) "java/lang/String" "value" "[B") (.int 1)) (.int 105) ∈ fl_N := by decide +kernel
theorem fx_el2_2 : Cond.eq (.elem (.field (Term.string "CoinSorterModel" 141) "java/lang/String" "value" "[B") (.int 2)) (.int 110) ∈ fl_N := by decide +kernel
theorem fx_ne2_3 : Cond.not (.eq (Term.string "CoinSorterModel" 141) (Term.string "CoinSorterModel" 143)) ∈ fl_N := by decide +kernel
theorem fx_ne2_4 : Cond.not (.eq (Term.string "CoinSorterModel" 141) (Term.string "CoinSorterModel" 149)) ∈ fl_N := by decide +kernel
theorem fx_ne2_5 : Cond.not (.eq (Term.string "CoinSorterModel" 141) (Term.string "CoinSorterModel" 151)) ∈ fl_N := by decide +kernel
theorem fx_eq2 : Cond.eq (Term.string "CoinSorter$Parser" 62) (Term.string "CoinSorterModel" 141) ∈ fl_N := by decide +kernel
theorem fx_pe2 : Cond.exactly (Term.string "CoinSorter$Parser" 62) "java/lang/String" ∈ fl_N := by decide +kernel
theorem fx_ex3 : Cond.exactly (Term.string "CoinSorterModel" 143) "java/lang/String" ∈ fl_N := by decide +kernel
theorem fx_co3 : Cond.eq (.field (Term.string "CoinSorterModel" 143) "java/lang/String" "coder" "B") (.int 0) ∈ fl_N := by decide +kernel
theorem fx_ar3 : Cond.arrayOf (.field (Term.string "CoinSorterModel" 143) "java/lang/String" "value" "[B") .byte ∈ fl_N := by decide +kernel
theorem fx_le3 : Cond.eq (.length (.field (Term.string "CoinSorterModel" 143) "java/lang/String" "value" "[B")) (.int 4) ∈ fl_N := by decide +kernel
theorem fx_el3_0 : Cond.eq (.elem (.field (Term.string "CoinSorterModel" 143) "java/lang/String" "value" "[B") (.int 0)) (.int 103) ∈ fl_N := by decide +kernel
theorem fx_el3_1 : Cond.eq (.elem (.field (Term.string "CoinSorterModel" 143) "java/lang/String" "value" "[B") (.int 1)) (.int 97) ∈ fl_N := by decide +kernel
theorem fx_el3_2 : Cond.eq (.elem (.field (Term.string "CoinSorterModel" 143) "java/lang/String" "value" "[B") (.int 2)) (.int 116) ∈ fl_N := by decide +kernel
theorem fx_el3_3 : Cond.eq (.elem (.field (Term.string "CoinSorterModel" 143) "java/lang/String" "value" "[B") (.int 3)) (.int 101) ∈ fl_N := by decide +kernel
theorem fx_ne3_4 : Cond.not (.eq (Term.string "CoinSorterModel" 143) (Term.string "CoinSorterModel" 149)) ∈ fl_N := by decide +kernel
theorem fx_ne3_5 : Cond.not (.eq (Term.string "CoinSorterModel" 143) (Term.string "CoinSorterModel" 151)) ∈ fl_N := by decide +kernel
theorem fx_eq3 : Cond.eq (Term.string "CoinSorter$Parser" 68) (Term.string "CoinSorterModel" 143) ∈ fl_N := by decide +kernel
theorem fx_pe3 : Cond.exactly (Term.string "CoinSorter$Parser" 68) "java/lang/String" ∈ fl_N := by decide +kernel
theorem fx_ex4 : Cond.exactly (Term.string "CoinSorterModel" 149) "java/lang/String" ∈ fl_N := by decide +kernel
theorem fx_co4 : Cond.eq (.field (Term.string "CoinSorterModel" 149) "java/lang/String" "coder" "B") (.int 0) ∈ fl_N := by decide +kernel
theorem fx_ar4 : Cond.arrayOf (.field (Term.string "CoinSorterModel" 149) "java/lang/String" "value" "[B") .byte ∈ fl_N := by decide +kernel
theorem fx_le4 : Cond.eq (.length (.field (Term.string "CoinSorterModel" 149) "java/lang/String" "value" "[B")) (.int 4) ∈ fl_N := by decide +kernel
theorem fx_el4_0 : Cond.eq (.elem (.field (Term.string "CoinSorterModel" 149) "java/lang/String" "value" "[B") (.int 0)) (.int 108) ∈ fl_N := by decide +kernel
theorem fx_el4_1 : Cond.eq (.elem (.field (Term.string "CoinSorterModel" 149) "java/lang/String" "value" "[B") (.int 1)) (.int 111) ∈ fl_N := by decide +kernel
theorem fx_el4_2 : Cond.eq (.elem (.field (Term.string "CoinSorterModel" 149) "java/lang/String" "value" "[B") (.int 2)) (.int 111) ∈ fl_N := by decide +kernel
theorem fx_el4_3 : Cond.eq (.elem (.field (Term.string "CoinSorterModel" 149) "java/lang/String" "value" "[B") (.int 3)) (.int 112) ∈ fl_N := by decide +kernel
theorem fx_ne4_5 : Cond.not (.eq (Term.string "CoinSorterModel" 149) (Term.string "CoinSorterModel" 151)) ∈ fl_N := by decide +kernel
theorem fx_eq4 : Cond.eq (Term.string "CoinSorter$Parser" 80) (Term.string "CoinSorterModel" 149) ∈ fl_N := by decide +kernel
theorem fx_pe4 : Cond.exactly (Term.string "CoinSorter$Parser" 80) "java/lang/String" ∈ fl_N := by decide +kernel
theorem fx_ex5 : Cond.exactly (Term.string "CoinSorterModel" 151) "java/lang/String" ∈ fl_N := by decide +kernel
theorem fx_co5 : Cond.eq (.field (Term.string "CoinSorterModel" 151) "java/lang/String" "coder" "B") (.int 0) ∈ fl_N := by decide +kernel
theorem fx_ar5 : Cond.arrayOf (.field (Term.string "CoinSorterModel" 151) "java/lang/String" "value" "[B") .byte ∈ fl_N := by decide +kernel
theorem fx_le5 : Cond.eq (.length (.field (Term.string "CoinSorterModel" 151) "java/lang/String" "value" "[B")) (.int 6) ∈ fl_N := by decide +kernel
theorem fx_el5_0 : Cond.eq (.elem (.field (Term.string "CoinSorterModel" 151) "java/lang/String" "value" "[B") (.int 0)) (.int 109) ∈ fl_N := by decide +kernel
theorem fx_el5_1 : Cond.eq (.elem (.field (Term.string "CoinSorterModel" 151) "java/lang/String" "value" "[B") (.int 1)) (.int 97) ∈ fl_N := by decide +kernel
theorem fx_el5_2 : Cond.eq (.elem (.field (Term.string "CoinSorterModel" 151) "java/lang/String" "value" "[B") (.int 2)) (.int 114) ∈ fl_N := by decide +kernel
theorem fx_el5_3 : Cond.eq (.elem (.field (Term.string "CoinSorterModel" 151) "java/lang/String" "value" "[B") (.int 3)) (.int 103) ∈ fl_N := by decide +kernel
theorem fx_el5_4 : Cond.eq (.elem (.field (Term.string "CoinSorterModel" 151) "java/lang/String" "value" "[B") (.int 4)) (.int 105) ∈ fl_N := by decide +kernel
theorem fx_el5_5 : Cond.eq (.elem (.field (Term.string "CoinSorterModel" 151) "java/lang/String" "value" "[B") (.int 5)) (.int 110) ∈ fl_N := by decide +kernel
theorem fx_eq5 : Cond.eq (Term.string "CoinSorter$Parser" 85) (Term.string "CoinSorterModel" 151) ∈ fl_N := by decide +kernel
theorem fx_pe5 : Cond.exactly (Term.string "CoinSorter$Parser" 85) "java/lang/String" ∈ fl_N := by decide +kernel
theorem fx_me0 : Cond.exactly (Term.string "CoinSorter" 145) "java/lang/String" ∈ fl_N := by decide +kernel
theorem fx_me1 : Cond.exactly (Term.string "CoinSorter" 156) "java/lang/String" ∈ fl_N := by decide +kernel
theorem fx_me2 : Cond.exactly (Term.string "CoinSorter" 327) "java/lang/String" ∈ fl_N := by decide +kernel
theorem fx_me3 : Cond.exactly (Term.string "CoinSorter" 329) "java/lang/String" ∈ fl_N := by decide +kernel
theorem fx_me4 : Cond.exactly (Term.string "CoinSorter" 333) "java/lang/String" ∈ fl_N := by decide +kernel
theorem fx_cs : Cond.eq (.static "java/lang/String" "COMPACT_STRINGS" "Z") (.int 1) ∈ fl_N := by decide +kernel
theorem fx_us : Cond.isRef (.static "java/lang/Throwable" "UNASSIGNED_STACK" "[Ljava/lang/StackTraceElement;") ∈ fl_N := by decide +kernel
theorem fx_ss : Cond.isRef (.static "java/lang/Throwable" "SUPPRESSED_SENTINEL" "Ljava/util/List;") ∈ fl_N := by decide +kernel
theorem fx_sf : Cond.isRef (.static "jdk/internal/util/Preconditions" "SIOOBE_FORMATTER" "Ljava/util/function/BiFunction;") ∈ fl_N := by decide +kernel
theorem fx_n1 : Cond.not (.castable "java/lang/IllegalArgumentException" "java/lang/IndexOutOfBoundsException") ∈ fl_N := by decide +kernel
theorem fx_n2 : Cond.not (.castable "java/lang/IllegalStateException" "java/lang/IndexOutOfBoundsException") ∈ fl_N := by decide +kernel
theorem fx_n3 : Cond.not (.castable "java/lang/IllegalStateException" "java/lang/IllegalArgumentException") ∈ fl_N := by decide +kernel
theorem vk_S_eq {N : Nat} {len : List Nat} {byt : List (List Int32)} {adK adV adK' adV' : Nat → Nat} {A : Nat → Prop} {U : State} {H : Heap} (h : vk_S N len byt adK adV A U H) (h1 : ∀ i, i < N → adK' i = adK i) (h2 : ∀ i, i < N → adV' i = adV i) : vk_S N len byt adK' adV' A U H := by
  refine ⟨fun i hi => ?_, fun i j hi hj e => h.2 i j hi hj (by rw [← h1 i hi, ← h1 j hj]; exact e)⟩
  rw [h1 i hi, h2 i hi]
  exact h.1 i hi
def ix_M (i : Nat) : Nat := match i with
  | 0 => 129
  | 1 => 139
  | 2 => 141
  | 3 => 143
  | 4 => 149
  | _ => 151
set_option maxHeartbeats 4000000 in
set_option maxRecDepth 100000 in
theorem wd_world {s : State} {b : Nat} (hts : ∀ w ∈ lw_tbl, w.before #[Value.ref b] s = true) (hgv : (Jvm.Cond.and given_1 narrow_1).before #[Value.ref b] s = true) : ∃ ω : Wd, ω.1 = s.heap ∧ ω.2.1 300 = b ∧ KW ω s := by
  have hs := flat_of_before _ hgv
  have hg : ∀ w ∈ gd_L, w.before #[Value.ref b] s = true := fun w hw => hts w (List.mem_filter.mp hw).1
  obtain ⟨c0, i0, k0⟩ := u_known (C := RX0) (T := TX0) (N := 7) (n := 7) hg uw_X0 (hts (.instantiable RX0 7) (List.mem_of_getElem? (i := 168) (by decide +kernel)))
  obtain ⟨c1, i1, k1⟩ := u_known (C := RX1) (T := TX1) (N := 3) (n := 3) hg uw_X1 (hts (.instantiable RX1 3) (List.mem_of_getElem? (i := 679) (by decide +kernel)))
  obtain ⟨c2, i2, k2⟩ := u_known (C := RX2) (T := TX2) (N := 2) (n := 2) hg uw_X2 (hts (.instantiable RX2 2) (List.mem_of_getElem? (i := 699) (by decide +kernel)))
  obtain ⟨c3, i3, k3⟩ := u_known (C := RX3) (T := TX3) (N := 5) (n := 5) hg uw_X3 (hts (.instantiable RX3 5) (List.mem_of_getElem? (i := 174) (by decide +kernel)))
  obtain ⟨c4, i4, k4⟩ := u_known (C := RX4) (T := TX4) (N := 9) (n := 9) hg uw_X4 (hts (.instantiable RX4 9) (List.mem_of_getElem? (i := 132) (by decide +kernel)))
  obtain ⟨c5, i5, k5⟩ := u_known (C := RX5) (T := TX5) (N := 5) (n := 5) hg uw_X5 (hts (.instantiable RX5 5) (List.mem_of_getElem? (i := 714) (by decide +kernel)))
  obtain ⟨c6, i6, k6⟩ := u_known (C := RX6) (T := TX6) (N := 2) (n := 2) hg uw_X6 (hts (.instantiable RX6 2) (List.mem_of_getElem? (i := 180) (by decide +kernel)))
  obtain ⟨c7, i7, k7⟩ := u_known (C := RX7) (T := TX7) (N := 15) (n := 15) hg uw_X7 (hts (.instantiable RX7 15) (List.mem_of_getElem? (i := 268) (by decide +kernel)))
  obtain ⟨c8, i8, k8⟩ := u_known (C := RX8) (T := TX8) (N := 2) (n := 2) hg uw_X8 (hts (.instantiable RX8 2) (List.mem_of_getElem? (i := 740) (by decide +kernel)))
  obtain ⟨c9, i9, k9⟩ := u_known (C := RX9) (T := TX9) (N := 12) (n := 12) hg uw_X9 (hts (.instantiable RX9 12) (List.mem_of_getElem? (i := 124) (by decide +kernel)))
  obtain ⟨c10, i10, k10⟩ := u_known (C := RX10) (T := TX10) (N := 29) (n := 29) hg uw_X10 (hts (.instantiable RX10 29) (List.mem_of_getElem? (i := 1343) (by decide +kernel)))
  obtain ⟨dC, dI, hKc⟩ : ∃ (dC : Nat → ClassId) (dI : Nat → Nat → Nat), ∀ (k : Nat) (q : vw_C), cl_L[k]? = some q → u_Kn s q.1 q.2.1 q.2.2 (dC k) (dI k) := by
    refine ⟨fun k => match k with | 0 => c0 | 1 => c1 | 2 => c2 | 3 => c3 | 4 => c4 | 5 => c5 | 6 => c6 | 7 => c7 | 8 => c8 | 9 => c9 | _ => c10, fun k => match k with | 0 => i0 | 1 => i1 | 2 => i2 | 3 => i3 | 4 => i4 | 5 => i5 | 6 => i6 | 7 => i7 | 8 => i8 | 9 => i9 | _ => i10, ?_⟩
    intro k q hq
    match k, hq with
    | 0, hq => cases hq; exact k0
    | 1, hq => cases hq; exact k1
    | 2, hq => cases hq; exact k2
    | 3, hq => cases hq; exact k3
    | 4, hq => cases hq; exact k4
    | 5, hq => cases hq; exact k5
    | 6, hq => cases hq; exact k6
    | 7, hq => cases hq; exact k7
    | 8, hq => cases hq; exact k8
    | 9, hq => cases hq; exact k9
    | 10, hq => cases hq; exact k10
    | k + 11, hq => simp [cl_L] at hq
  obtain ⟨aI, kaI, paI, f1I, f2I, f3I⟩ := Cond.arrayClass_spec (args := #[Value.ref b]) (first := s) (o := none) (s := s) (idx := []) (hts (.arrayClass .int) (List.mem_of_getElem? (i := 200) (by decide +kernel)))
  obtain ⟨aJ, kaJ, paJ, f1J, f2J, f3J⟩ := Cond.arrayClass_spec (args := #[Value.ref b]) (first := s) (o := none) (s := s) (idx := []) (hts (.arrayClass .long) (List.mem_of_getElem? (i := 738) (by decide +kernel)))
  obtain ⟨aB, kaB, paB, f1B, f2B, f3B⟩ := Cond.arrayClass_spec (args := #[Value.ref b]) (first := s) (o := none) (s := s) (idx := []) (hts (.arrayClass .byte) (List.mem_of_getElem? (i := 166) (by decide +kernel)))
  obtain ⟨aZ, kaZ, paZ, f1Z, f2Z, f3Z⟩ := Cond.arrayClass_spec (args := #[Value.ref b]) (first := s) (o := none) (s := s) (idx := []) (hts (.arrayClass .boolean) (List.mem_of_getElem? (i := 712) (by decide +kernel)))
  have hAO : va_AO "CoinSorter$State" s := va_AO.of (hts (.arrayOver (.object "CoinSorter$State")) (List.mem_of_getElem? (i := 685) (by decide +kernel)))
  obtain ⟨pS, aS, kaS, f0S, f1S, f2S, f3S, f4S⟩ := Cond.arrayOver_spec (args := #[]) (first := s) (o := none) (s := s) (idx := []) hAO
  obtain ⟨κ, e0, e1, e2, e3, e4⟩ : ∃ κ : Nat → ClassId, κ 0 = aI ∧ κ 1 = aJ ∧ κ 2 = aB ∧ κ 3 = aZ ∧ κ 4 = aS := ⟨fun t => match t with | 0 => aI | 1 => aJ | 2 => aB | 3 => aZ | _ => aS, rfl, rfl, rfl, rfl, rfl⟩
  have hA : ∀ a : Nat, a < s.heap.size → ¬ (fun q : Nat => s.heap.size ≤ q) a := fun a h => Nat.not_le.mpr h
  obtain ⟨adK, adV, hSt, hEv⟩ := vk_Sof (args := #[Value.ref b]) (s := s) (N := 6) (tm := fun i => Term.string "CoinSorterModel" (ix_M i)) (len := st_len) (byt := st_byt) (A := fun q => s.heap.size ≤ q)
    (fun i hi => by rcases (show i = 0 ∨ i = 1 ∨ i = 2 ∨ i = 3 ∨ i = 4 ∨ i = 5 by omega) with rfl | rfl | rfl | rfl | rfl | rfl <;> decide)
    (fun i hi => by
      rcases (show i = 0 ∨ i = 1 ∨ i = 2 ∨ i = 3 ∨ i = 4 ∨ i = 5 by omega) with rfl | rfl | rfl | rfl | rfl | rfl
      · exact hs _ fx_ex0
      · exact hs _ fx_ex1
      · exact hs _ fx_ex2
      · exact hs _ fx_ex3
      · exact hs _ fx_ex4
      · exact hs _ fx_ex5)
    (fun i hi => by
      rcases (show i = 0 ∨ i = 1 ∨ i = 2 ∨ i = 3 ∨ i = 4 ∨ i = 5 by omega) with rfl | rfl | rfl | rfl | rfl | rfl
      · exact hs _ fx_co0
      · exact hs _ fx_co1
      · exact hs _ fx_co2
      · exact hs _ fx_co3
      · exact hs _ fx_co4
      · exact hs _ fx_co5)
    (fun i hi => by
      rcases (show i = 0 ∨ i = 1 ∨ i = 2 ∨ i = 3 ∨ i = 4 ∨ i = 5 by omega) with rfl | rfl | rfl | rfl | rfl | rfl
      · exact hs _ fx_ar0
      · exact hs _ fx_ar1
      · exact hs _ fx_ar2
      · exact hs _ fx_ar3
      · exact hs _ fx_ar4
      · exact hs _ fx_ar5)
    (fun i hi => by
      rcases (show i = 0 ∨ i = 1 ∨ i = 2 ∨ i = 3 ∨ i = 4 ∨ i = 5 by omega) with rfl | rfl | rfl | rfl | rfl | rfl
      · exact hs _ fx_le0
      · exact hs _ fx_le1
      · exact hs _ fx_le2
      · exact hs _ fx_le3
      · exact hs _ fx_le4
      · exact hs _ fx_le5)
    (fun i hi j hj => by
      rcases (show i = 0 ∨ i = 1 ∨ i = 2 ∨ i = 3 ∨ i = 4 ∨ i = 5 by omega) with rfl | rfl | rfl | rfl | rfl | rfl
      · have hj : j < 4 := hj
        rcases (show j = 0 ∨ j = 1 ∨ j = 2 ∨ j = 3 by omega) with rfl | rfl | rfl | rfl
        · exact hs _ fx_el0_0
        · exact hs _ fx_el0_1
        · exact hs _ fx_el0_2
        · exact hs _ fx_el0_3
      · have hj : j < 4 := hj
        rcases (show j = 0 ∨ j = 1 ∨ j = 2 ∨ j = 3 by omega) with rfl | rfl | rfl | rfl
        · exact hs _ fx_el1_0
        · exact hs _ fx_el1_1
        · exact hs _ fx_el1_2
        · exact hs _ fx_el1_3
      · have hj : j < 3 := hj
        rcases (show j = 0 ∨ j = 1 ∨ j = 2 by omega) with rfl | rfl | rfl
        · exact hs _ fx_el2_0
        · exact hs _ fx_el2_1
        · exact hs _ fx_el2_2
      · have hj : j < 4 := hj
        rcases (show j = 0 ∨ j = 1 ∨ j = 2 ∨ j = 3 by omega) with rfl | rfl | rfl | rfl
        · exact hs _ fx_el3_0
        · exact hs _ fx_el3_1
        · exact hs _ fx_el3_2
        · exact hs _ fx_el3_3
      · have hj : j < 4 := hj
        rcases (show j = 0 ∨ j = 1 ∨ j = 2 ∨ j = 3 by omega) with rfl | rfl | rfl | rfl
        · exact hs _ fx_el4_0
        · exact hs _ fx_el4_1
        · exact hs _ fx_el4_2
        · exact hs _ fx_el4_3
      · have hj : j < 6 := hj
        rcases (show j = 0 ∨ j = 1 ∨ j = 2 ∨ j = 3 ∨ j = 4 ∨ j = 5 by omega) with rfl | rfl | rfl | rfl | rfl | rfl
        · exact hs _ fx_el5_0
        · exact hs _ fx_el5_1
        · exact hs _ fx_el5_2
        · exact hs _ fx_el5_3
        · exact hs _ fx_el5_4
        · exact hs _ fx_el5_5)
    (fun i j hi hj hij => by
      rcases (show i = 0 ∨ i = 1 ∨ i = 2 ∨ i = 3 ∨ i = 4 ∨ i = 5 by omega) with rfl | rfl | rfl | rfl | rfl | rfl <;> rcases (show j = 0 ∨ j = 1 ∨ j = 2 ∨ j = 3 ∨ j = 4 ∨ j = 5 by omega) with rfl | rfl | rfl | rfl | rfl | rfl
      · exact absurd rfl hij
      · exact Or.inl (hs _ fx_ne0_1)
      · exact Or.inl (hs _ fx_ne0_2)
      · exact Or.inl (hs _ fx_ne0_3)
      · exact Or.inl (hs _ fx_ne0_4)
      · exact Or.inl (hs _ fx_ne0_5)
      · exact Or.inr (hs _ fx_ne0_1)
      · exact absurd rfl hij
      · exact Or.inl (hs _ fx_ne1_2)
      · exact Or.inl (hs _ fx_ne1_3)
      · exact Or.inl (hs _ fx_ne1_4)
      · exact Or.inl (hs _ fx_ne1_5)
      · exact Or.inr (hs _ fx_ne0_2)
      · exact Or.inr (hs _ fx_ne1_2)
      · exact absurd rfl hij
      · exact Or.inl (hs _ fx_ne2_3)
      · exact Or.inl (hs _ fx_ne2_4)
      · exact Or.inl (hs _ fx_ne2_5)
      · exact Or.inr (hs _ fx_ne0_3)
      · exact Or.inr (hs _ fx_ne1_3)
      · exact Or.inr (hs _ fx_ne2_3)
      · exact absurd rfl hij
      · exact Or.inl (hs _ fx_ne3_4)
      · exact Or.inl (hs _ fx_ne3_5)
      · exact Or.inr (hs _ fx_ne0_4)
      · exact Or.inr (hs _ fx_ne1_4)
      · exact Or.inr (hs _ fx_ne2_4)
      · exact Or.inr (hs _ fx_ne3_4)
      · exact absurd rfl hij
      · exact Or.inl (hs _ fx_ne4_5)
      · exact Or.inr (hs _ fx_ne0_5)
      · exact Or.inr (hs _ fx_ne1_5)
      · exact Or.inr (hs _ fx_ne2_5)
      · exact Or.inr (hs _ fx_ne3_5)
      · exact Or.inr (hs _ fx_ne4_5)
      · exact absurd rfl hij) hA
  have ev0 : (Term.string "CoinSorterModel" 129).eval #[Value.ref b] s none [] s = some (.ref (adK 0)) := hEv 0 (by decide)
  obtain ⟨pq0, -, -, -, qe0, -⟩ := Cond.exactly_spec (args := #[Value.ref b]) (first := s) (o := none) (s := s) (idx := []) (hs _ fx_pe0)
  have pe0 : pq0 = adK 0 := by have h1 := va_eqR (hs _ fx_eq0) qe0; rw [ev0] at h1; cases h1; rfl
  have ev1 : (Term.string "CoinSorterModel" 139).eval #[Value.ref b] s none [] s = some (.ref (adK 1)) := hEv 1 (by decide)
  obtain ⟨pq1, -, -, -, qe1, -⟩ := Cond.exactly_spec (args := #[Value.ref b]) (first := s) (o := none) (s := s) (idx := []) (hs _ fx_pe1)
  have pe1 : pq1 = adK 1 := by have h1 := va_eqR (hs _ fx_eq1) qe1; rw [ev1] at h1; cases h1; rfl
  have ev2 : (Term.string "CoinSorterModel" 141).eval #[Value.ref b] s none [] s = some (.ref (adK 2)) := hEv 2 (by decide)
  obtain ⟨pq2, -, -, -, qe2, -⟩ := Cond.exactly_spec (args := #[Value.ref b]) (first := s) (o := none) (s := s) (idx := []) (hs _ fx_pe2)
  have pe2 : pq2 = adK 2 := by have h1 := va_eqR (hs _ fx_eq2) qe2; rw [ev2] at h1; cases h1; rfl
  have ev3 : (Term.string "CoinSorterModel" 143).eval #[Value.ref b] s none [] s = some (.ref (adK 3)) := hEv 3 (by decide)
  obtain ⟨pq3, -, -, -, qe3, -⟩ := Cond.exactly_spec (args := #[Value.ref b]) (first := s) (o := none) (s := s) (idx := []) (hs _ fx_pe3)
  have pe3 : pq3 = adK 3 := by have h1 := va_eqR (hs _ fx_eq3) qe3; rw [ev3] at h1; cases h1; rfl
  have ev4 : (Term.string "CoinSorterModel" 149).eval #[Value.ref b] s none [] s = some (.ref (adK 4)) := hEv 4 (by decide)
  obtain ⟨pq4, -, -, -, qe4, -⟩ := Cond.exactly_spec (args := #[Value.ref b]) (first := s) (o := none) (s := s) (idx := []) (hs _ fx_pe4)
  have pe4 : pq4 = adK 4 := by have h1 := va_eqR (hs _ fx_eq4) qe4; rw [ev4] at h1; cases h1; rfl
  have ev5 : (Term.string "CoinSorterModel" 151).eval #[Value.ref b] s none [] s = some (.ref (adK 5)) := hEv 5 (by decide)
  obtain ⟨pq5, -, -, -, qe5, -⟩ := Cond.exactly_spec (args := #[Value.ref b]) (first := s) (o := none) (s := s) (idx := []) (hs _ fx_pe5)
  have pe5 : pq5 = adK 5 := by have h1 := va_eqR (hs _ fx_eq5) qe5; rw [ev5] at h1; cases h1; rfl
  obtain ⟨mq0, -, -, -, me0, -⟩ := Cond.exactly_spec (args := #[Value.ref b]) (first := s) (o := none) (s := s) (idx := []) (hs _ fx_me0)
  obtain ⟨mq1, -, -, -, me1, -⟩ := Cond.exactly_spec (args := #[Value.ref b]) (first := s) (o := none) (s := s) (idx := []) (hs _ fx_me1)
  obtain ⟨mq2, -, -, -, me2, -⟩ := Cond.exactly_spec (args := #[Value.ref b]) (first := s) (o := none) (s := s) (idx := []) (hs _ fx_me2)
  obtain ⟨mq3, -, -, -, me3, -⟩ := Cond.exactly_spec (args := #[Value.ref b]) (first := s) (o := none) (s := s) (idx := []) (hs _ fx_me3)
  obtain ⟨mq4, -, -, -, me4, -⟩ := Cond.exactly_spec (args := #[Value.ref b]) (first := s) (o := none) (s := s) (idx := []) (hs _ fx_me4)
  obtain ⟨fo, hfo⟩ : ∃ fo : Option Nat, va_Z "jdk/internal/util/Preconditions" "SIOOBE_FORMATTER" "Ljava/util/function/BiFunction;" (va_rf fo) (fun q => s.heap.size ≤ q) s s.heap := by
    rcases va_Zqof (A := fun q => s.heap.size ≤ q) (hts (.laysStatic "jdk/internal/util/Preconditions" "SIOOBE_FORMATTER" "Ljava/util/function/BiFunction;") (List.mem_of_getElem? (i := 422) (by decide +kernel))) (hts (.initialized "jdk/internal/util/Preconditions") (List.mem_of_getElem? (i := 111) (by decide +kernel))) (hs _ fx_sf) hA with h | ⟨t, h⟩
    · exact ⟨none, h⟩
    · exact ⟨some t, h⟩
  obtain ⟨sa, s0, s1, s2, s3, s4, s5, v0, v1, v2, v3, v4, v5, m0, m1, m2, m3, m4, sF, sB⟩ : ∃ sa : Nat → Nat, sa 0 = adK 0 ∧ sa 1 = adK 1 ∧ sa 2 = adK 2 ∧ sa 3 = adK 3 ∧ sa 4 = adK 4 ∧ sa 5 = adK 5 ∧ sa 100 = adV 0 ∧ sa 101 = adV 1 ∧ sa 102 = adV 2 ∧ sa 103 = adV 3 ∧ sa 104 = adV 4 ∧ sa 105 = adV 5 ∧ sa 6 = mq0 ∧ sa 7 = mq1 ∧ sa 8 = mq2 ∧ sa 9 = mq3 ∧ sa 10 = mq4 ∧ sa 200 = (match fo with | none => 0 | some t => t + 1) ∧ sa 300 = b :=
    ⟨fun j => if j = 300 then b else if j = 200 then (match fo with | none => 0 | some t => t + 1) else if 100 ≤ j then adV (j - 100) else if j = 6 then mq0 else if j = 7 then mq1 else if j = 8 then mq2 else if j = 9 then mq3 else if j = 10 then mq4 else adK j, rfl, rfl, rfl, rfl, rfl, rfl, rfl, rfl, rfl, rfl, rfl, rfl, rfl, rfl, rfl, rfl, rfl, rfl, rfl⟩
  refine ⟨(s.heap, sa, κ, (dC, dI)), rfl, sB, ⟨⟨hKc, fun k q hk => ?_⟩, fun w hw => ?_, hAO, vk_S_eq hSt (fun i hi => ?_) (fun i hi => ?_), ?_, ?_, ?_, ?_, ?_, ?_, ?_, ?_⟩⟩
  · have hk5 : k < 5 := (List.getElem?_eq_some_iff.mp hk).1
    rcases (show k = 0 ∨ k = 1 ∨ k = 2 ∨ k = 3 ∨ k = 4 by omega) with rfl | rfl | rfl | rfl | rfl
    · cases hk
      show ArrOfT s (κ 0) _ ∧ va_RA s (κ 0) _
      rw [e0]
      exact ⟨fun n z => ⟨fun k h => (by cases h), kaI, f2I, paI, f3I⟩, f1I⟩
    · cases hk
      show ArrOfT s (κ 1) _ ∧ va_RA s (κ 1) _
      rw [e1]
      exact ⟨fun n z => ⟨fun k h => (by cases h), kaJ, f2J, paJ, f3J⟩, f1J⟩
    · cases hk
      show ArrOfT s (κ 2) _ ∧ va_RA s (κ 2) _
      rw [e2]
      exact ⟨fun n z => ⟨fun k h => (by cases h), kaB, f2B, paB, f3B⟩, f1B⟩
    · cases hk
      show ArrOfT s (κ 3) _ ∧ va_RA s (κ 3) _
      rw [e3]
      exact ⟨fun n z => ⟨fun k h => (by cases h), kaZ, f2Z, paZ, f3Z⟩, f1Z⟩
    · cases hk
      show ArrOfT s (κ 4) _ ∧ va_RA s (κ 4) _
      rw [e4]
      exact ⟨fun n z => ⟨fun k h => (by cases h), kaS, f2S, pS, f3S⟩, kaS, pS, f2S, f3S, f0S, f4S⟩
  · have h1 := hts w (List.mem_filter.mp hw).1
    exact va_Nw.of (ns_on hw) h1
  · rcases (show i = 0 ∨ i = 1 ∨ i = 2 ∨ i = 3 ∨ i = 4 ∨ i = 5 by omega) with rfl | rfl | rfl | rfl | rfl | rfl <;> assumption
  · rcases (show i = 0 ∨ i = 1 ∨ i = 2 ∨ i = 3 ∨ i = 4 ∨ i = 5 by omega) with rfl | rfl | rfl | rfl | rfl | rfl <;> assumption
  · exact List.forall_mem_cons.mpr ⟨vk_R.of (A := #[Value.ref b]) (hts (.stringRef "CoinSorter$Parser" 41 "type") (List.mem_of_getElem? (i := 843) (by decide +kernel))) (by show _ = some (Value.ref (sa 0)); rw [s0, ← pe0]; exact qe0), List.forall_mem_cons.mpr ⟨vk_R.of (A := #[Value.ref b]) (hts (.stringRef "CoinSorter$Parser" 57 "fake") (List.mem_of_getElem? (i := 897) (by decide +kernel))) (by show _ = some (Value.ref (sa 1)); rw [s1, ← pe1]; exact qe1), List.forall_mem_cons.mpr ⟨vk_R.of (A := #[Value.ref b]) (hts (.stringRef "CoinSorter$Parser" 62 "bin") (List.mem_of_getElem? (i := 898) (by decide +kernel))) (by show _ = some (Value.ref (sa 2)); rw [s2, ← pe2]; exact qe2), List.forall_mem_cons.mpr ⟨vk_R.of (A := #[Value.ref b]) (hts (.stringRef "CoinSorter$Parser" 68 "gate") (List.mem_of_getElem? (i := 907) (by decide +kernel))) (by show _ = some (Value.ref (sa 3)); rw [s3, ← pe3]; exact qe3), List.forall_mem_cons.mpr ⟨vk_R.of (A := #[Value.ref b]) (hts (.stringRef "CoinSorter$Parser" 80 "loop") (List.mem_of_getElem? (i := 908) (by decide +kernel))) (by show _ = some (Value.ref (sa 4)); rw [s4, ← pe4]; exact qe4), List.forall_mem_cons.mpr ⟨vk_R.of (A := #[Value.ref b]) (hts (.stringRef "CoinSorter$Parser" 85 "margin") (List.mem_of_getElem? (i := 909) (by decide +kernel))) (by show _ = some (Value.ref (sa 5)); rw [s5, ← pe5]; exact qe5), List.forall_mem_cons.mpr ⟨vk_R.of (A := #[Value.ref b]) (hts (.stringRef "CoinSorterModel" 129 "type") (List.mem_of_getElem? (i := 1476) (by decide +kernel))) (by show _ = some (Value.ref (sa 0)); rw [s0]; exact ev0), List.forall_mem_cons.mpr ⟨vk_R.of (A := #[Value.ref b]) (hts (.stringRef "CoinSorterModel" 139 "fake") (List.mem_of_getElem? (i := 1495) (by decide +kernel))) (by show _ = some (Value.ref (sa 1)); rw [s1]; exact ev1), List.forall_mem_cons.mpr ⟨vk_R.of (A := #[Value.ref b]) (hts (.stringRef "CoinSorterModel" 141 "bin") (List.mem_of_getElem? (i := 1496) (by decide +kernel))) (by show _ = some (Value.ref (sa 2)); rw [s2]; exact ev2), List.forall_mem_cons.mpr ⟨vk_R.of (A := #[Value.ref b]) (hts (.stringRef "CoinSorterModel" 143 "gate") (List.mem_of_getElem? (i := 1497) (by decide +kernel))) (by show _ = some (Value.ref (sa 3)); rw [s3]; exact ev3), List.forall_mem_cons.mpr ⟨vk_R.of (A := #[Value.ref b]) (hts (.stringRef "CoinSorterModel" 149 "loop") (List.mem_of_getElem? (i := 1502) (by decide +kernel))) (by show _ = some (Value.ref (sa 4)); rw [s4]; exact ev4), List.forall_mem_cons.mpr ⟨vk_R.of (A := #[Value.ref b]) (hts (.stringRef "CoinSorterModel" 151 "margin") (List.mem_of_getElem? (i := 1503) (by decide +kernel))) (by show _ = some (Value.ref (sa 5)); rw [s5]; exact ev5), List.forall_mem_cons.mpr ⟨vk_R.of (A := #[Value.ref b]) (hts (.stringRef "CoinSorter" 145 "no such type") (List.mem_of_getElem? (i := 1296) (by decide +kernel))) (by show _ = some (Value.ref (sa 6)); rw [m0]; exact me0), List.forall_mem_cons.mpr ⟨vk_R.of (A := #[Value.ref b]) (hts (.stringRef "CoinSorter" 156 "measurement out of range") (List.mem_of_getElem? (i := 1301) (by decide +kernel))) (by show _ = some (Value.ref (sa 7)); rw [m1]; exact me1), List.forall_mem_cons.mpr ⟨vk_R.of (A := #[Value.ref b]) (hts (.stringRef "CoinSorter" 327 "no such bag") (List.mem_of_getElem? (i := 1320) (by decide +kernel))) (by show _ = some (Value.ref (sa 8)); rw [m2]; exact me2), List.forall_mem_cons.mpr ⟨vk_R.of (A := #[Value.ref b]) (hts (.stringRef "CoinSorter" 329 "counted out of range") (List.mem_of_getElem? (i := 1321) (by decide +kernel))) (by show _ = some (Value.ref (sa 9)); rw [m3]; exact me3), List.forall_mem_cons.mpr ⟨vk_R.of (A := #[Value.ref b]) (hts (.stringRef "CoinSorter" 333 "audited before") (List.mem_of_getElem? (i := 1331) (by decide +kernel))) (by show _ = some (Value.ref (sa 10)); rw [m4]; exact me4), fun _ h => nomatch h⟩⟩⟩⟩⟩⟩⟩⟩⟩⟩⟩⟩⟩⟩⟩⟩⟩
  · exact vx_Zqof (hts (.laysStatic "java/lang/Throwable" "UNASSIGNED_STACK" "[Ljava/lang/StackTraceElement;") (List.mem_of_getElem? (i := 315) (by decide +kernel))) (hts (.initialized "java/lang/Throwable") (List.mem_of_getElem? (i := 101) (by decide +kernel))) (hs _ fx_us) hA
  · exact vx_Zqof (hts (.laysStatic "java/lang/Throwable" "SUPPRESSED_SENTINEL" "Ljava/util/List;") (List.mem_of_getElem? (i := 317) (by decide +kernel))) (hts (.initialized "java/lang/Throwable") (List.mem_of_getElem? (i := 101) (by decide +kernel))) (hs _ fx_ss) hA
  · exact va_Zof (hts (.laysStatic "java/lang/String" "COMPACT_STRINGS" "Z") (List.mem_of_getElem? (i := 340) (by decide +kernel))) (hts (.initialized "java/lang/String") (List.mem_of_getElem? (i := 107) (by decide +kernel))) (va_eqt (hs _ fx_cs)) hA
  · show va_Z _ _ _ (sfv (s.heap, sa, κ, (dC, dI))) _ _ _
    have e9 : sfv (s.heap, sa, κ, (dC, dI)) = va_rf fo := by
      show va_rf (if sa 200 = 0 then none else some (sa 200 - 1)) = va_rf fo
      rw [sF]
      cases fo <;> rfl
    rw [e9]
    exact hfo
  · exact va_Nc.of (hs _ fx_n1)
  · exact va_Nc.of (hs _ fx_n2)
  · exact va_Nc.of (hs _ fx_n3)
/-- how much the loops may turn -/
def NN : Nat := 100000
/-- THE PURE CLAIM: class and reference, as functions over the small heap, agree on every script -/
def PureMain : Prop := ∀ (L : Nat) (xs : Nat → Int32), L ≤ 3072 → ∃ (a1 a2 a3 : Nat) (M0 M' : Mem), fn_law_init NN = some (a1, a2, a3, M0) ∧ fn_law_loop NN L xs a1 a2 a3 513 M0 0 = some M'
set_option maxHeartbeats 4000000 in
set_option maxRecDepth 100000 in
theorem whole_open (hp : PureMain) {p : Program} {e : Env} {s : State} {m : MethodId} {below : List Frame} {meth : Method} {c : Code} (l : Launch) (hflags : l.flags = flags0) {b L : Nat} {xs : Nat → Int32} (hL : L ≤ 3072) (C0 : lw_At p s m meth c b L xs) : W p l e room_1 s m #[Value.ref b] below meth c s.heap [] 0 0 (lw_Z below #[Value.ref b] s) (entryFrame m ([Value.ref b] : List Value).toArray 7) := by
  obtain ⟨hx, hb, hr, hml, hown, hts, hX, hbl, hlocks, hgv⟩ := C0
  obtain ⟨ω, w1, w2, hKW⟩ := wd_world hts hgv
  have hst : l.stackTraces = false := by unfold Launch.stackTraces; rw [hflags]; decide
  obtain ⟨a1, a2, a3, M0, M', q1, q2⟩ := hp L xs hL
  have hC : Cx (p, l, e, room_1, s, m, #[Value.ref b], below, meth, c) cL_law 7 RL ω 840 601024 7293034 := ⟨hx, hb, hml, hown, fun w hw => hts w (List.mem_filter.mp hw).1, hKW, hlocks, ⟨by unfold wz; rw [w1]; exact Nat.le_refl _, fun q hq => by rw [w1]⟩, Nat.le_of_ble_eq_true rfl, Nat.le_of_ble_eq_true rfl, Nat.le_of_ble_eq_true rfl, Nat.le_of_ble_eq_true rfl⟩
  have hSC : Sx (p, l, e, room_1, s, m, #[Value.ref b], below, meth, c) ω L xs := ⟨by rw [w2]; exact hX, by rw [w2]; exact hbl, by rw [w2]; show ¬ wz ω ≤ b; unfold wz; rw [w1]; exact Nat.not_le.mpr hbl⟩
  have hend : ∀ (k : Nat) (M : Mem) (lv : List (Nat × Value)), JJ (p, l, e, room_1, s, m, #[Value.ref b], below, meth, c) (lw_Z below #[Value.ref b] s) 7 ω k M 601024 7293034 1447 lv [.int 1] := fun k M lv H locs ls hl hP hz hS => by
    refine va_forget (fun q hq => ?_) ?_
    · have := hS.2.2 q hq
      have e8 : wz ω = s.heap.size := by unfold wz; rw [w1]
      rw [← e8]
      exact this
    · exact lw_ret hx hb hr hlocks dL_law_1447
  have h9 := bk_law_init hC q1 (bk_law_loop hst hC hSC hend 513 M0 0 0 405 71302 (by decide) (by decide) q2)
  have hl := lv_entry ([.ref b]) (n := 7) (Nat.le_of_ble_eq_true rfl)
  rw [lg_entry_eq]
  refine h9 s.heap [] _ ?_ (fun k q h => by simp [toW] at h) (by unfold wz; rw [w1]; simp) va_S.rf
  have e7 : shL ω [(0, .float 300)] = [(0, .ref b)] := by
    show [(0, sh ω (.float 300))] = _
    rw [sh_S (by decide)]
    show [(0, Value.ref (ω.2.1 300))] = _
    rw [w2]
  rw [e7]
  exact hl
