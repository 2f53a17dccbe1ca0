/-! THROWS: a method that throws; the law's three catchers -/
def XT (ω : Wd) (E : String) (M' : Mem) : String → State → State → Prop := fun E' st t => E' = E ∧ (∃ k', va_P ω.2.2.2 cl_L (toW ω M') t.heap ∧ t.heap.size = wz ω + M'.length + k') ∧ va_F (mA ω) st t
def QN : Array Value → State → Outcome → State → Prop := fun _ _ _ _ => False
def CT (l : Launch) (ω : Wd) (k : Nat) (y : MethodName) (cc : ByteArray) (mL : Nat) (ret : Option FieldType) (h : Nat) (av : List Value) (M : Mem) (E : String) (M' : Mem) : Prop :=
  vx_Met l y (Cond.code y cc mL ret :: gd_L) (rm_ h 1 6) (PC ω k M av) QN (XT ω E M') 1 6 (mA ω)
abbrev QT (Γ : Gm) (ω : Wd) (E : String) (M' : Mem) : State → Prop := vx_MQ Γ.below QN (XT ω E M') Γ.args Γ.s 1 6 (mA ω)
def xn : Int32 → String := fun c => if c = 1 then "java/lang/IndexOutOfBoundsException" else if c = 2 then "java/lang/IllegalArgumentException" else "java/lang/IllegalStateException"
def jv_TH (own : String) (ik is ic : Nat) (cls text : String) (j : Nat) : Prop := Bundle.fit cls = true ∧ Cond.classLink own ik cls ∈ gd_L ∧ Cond.initialized cls ∈ gd_L ∧ (own, is, text, j) ∈ st_L ∧ ∀ w ∈ vx_atS own ic cls ["java/lang/RuntimeException", "java/lang/Exception"], w ∈ gd_L ∨ w ∈ ns_L
theorem ns_on {w : Cond} (h : w ∈ ns_L) : w.onTables = true := by
  have h2 := (List.mem_filter.mp h).2
  cases w <;> first | rfl | (simp [jv_isNest] at h2)
section JX
variable {Γ : Gm} {Q : State → Prop} {nL k : Nat} {ω : Wd} {M : Mem} {ce sl pc : Nat} {lv : List (Nat × Value)} {st : List Value} {cc : ByteArray} {own : String} {hh mT sT : Nat}
theorem jv_throw (C : Cx Γ cc nL own ω (hh + 6) 1 6) (hst : Γ.2.1.stackTraces = false) (htab : ∀ x ∈ Γ.c.exceptionTable.toList, False) {ik is ic j : Nat} {cls text : String} (T : jv_TH own ik is ic cls text j)
    (d0 : decode cc pc = .ok (.new ik, 3)) (d3 : decode cc (pc + 3) = .ok (.dup, 1)) (d4 : decode cc (pc + 4) = .ok (.ldc is, 2)) (d6 : decode cc (pc + 6) = .ok (.invokespecial ic, 3)) (d9 : decode cc (pc + 9) = .ok (.athrow, 1)) (hcat : (st.map fun v => v.category).sum ≤ 8) {x r : Int32} (hx : xn x = cls) {M' : Mem} (h : some (x, M) = some (r, M')) :
    JJ Γ (QT Γ ω (xn r) M') nL ω k M 0 0 pc lv st := by
  obtain ⟨hxe, hb, hml, hown, hts, hKW, hlk, hbs, hR⟩ := C
  obtain ⟨hfit, t1, t2, t3, t4⟩ := T
  intro H locs ls hl hP hz hS
  cases h
  have hw : ∀ w, w ∈ gd_L ∨ w ∈ ns_L → w.before Γ.args Γ.s = true := fun w hw => hw.elim (hts w) (fun h => va_Nw.use (ns_on h) (hKW.2.1 w h))
  have hg : ∀ w, w ∈ gd_L ∨ w ∈ ns_L → vx_ot w = true := fun w hw => by
    unfold vx_ot
    rcases hw with h | h
    · rw [gd_good h, Bool.or_true]
    · rw [ns_on h, Bool.true_or]
  have hcat' : ((st.map (sh ω)).map fun v => v.category).sum ≤ 8 := by
    rw [List.map_map]; rw [show (fun v : Value => v.category) ∘ sh ω = (fun v : Value => v.category) from funext (sh_cat ω)]; exact hcat
  have hkp := jv_keep hbs
  refine vx_throwS (A := mA ω) (names := ["java/lang/RuntimeException", "java/lang/Exception"]) hxe hb hst hown hfit (by decide +kernel) (hts _ t1) (hts _ t2) (hKW.2.2.2.2.1 _ t3) (fun w hw' => hw w (t4 w hw')) (fun w hw' => ?_) (hKW.2.2.2.2.2.1.kept hkp) (hKW.2.2.2.2.2.2.1.kept hkp) hS (by rw [hml, hl.1]) d0 d3 d4 d6 d9 (fun x hx => (htab x hx).elim) (by have := hR.1; show 2 + 3 < _; omega) (by have := hR.2.2.2; show _ + (13 * (2 + 1) + 43) ≤ _; omega) hR.2.1 hR.2.2.1 hlk (fun t ha hsz hq => ?_) hS.2.2 (Nat.le_refl _) (Nat.le_refl _)
  · rcases List.mem_cons.mp hw' with rfl | hw'
    · exact hg _ (Or.inl t1)
    · rcases List.mem_cons.mp hw' with rfl | hw'
      · exact hg _ (Or.inl t2)
      · exact hg _ (t4 w hw')
  · refine ⟨hx.symm, ⟨t.heap.size - (wz ω + M.length), hP.kept (fun q x hx => hq x.1 ((hP q x hx).lt)), by omega⟩, Nat.le_trans hS.1 hsz, fun q h1 h2 => ?_⟩
    rw [hq q (Nat.lt_of_lt_of_le h1 hS.1)]
    exact hS.2.1 q h1 h2
theorem jv_throwW (C : Cx Γ cc nL own ω (hh + 6) 1 6) (hst : Γ.2.1.stackTraces = false) (htab : ∀ x ∈ Γ.c.exceptionTable.toList, False) {ik is ic j : Nat} {cls text : String} (T : jv_TH own ik is ic cls text j)
    (d0 : decode cc pc = .ok (.new ik, 3)) (d3 : decode cc (pc + 3) = .ok (.dup, 1)) (d4 : decode cc (pc + 4) = .ok (.ldc_w is, 3)) (d6 : decode cc (pc + 7) = .ok (.invokespecial ic, 3)) (d9 : decode cc (pc + 10) = .ok (.athrow, 1)) (hcat : (st.map fun v => v.category).sum ≤ 8) {x r : Int32} (hx : xn x = cls) {M' : Mem} (h : some (x, M) = some (r, M')) :
    JJ Γ (QT Γ ω (xn r) M') nL ω k M 0 0 pc lv st := by
  obtain ⟨hxe, hb, hml, hown, hts, hKW, hlk, hbs, hR⟩ := C
  obtain ⟨hfit, t1, t2, t3, t4⟩ := T
  intro H locs ls hl hP hz hS
  cases h
  have hw : ∀ w, w ∈ gd_L ∨ w ∈ ns_L → w.before Γ.args Γ.s = true := fun w hw => hw.elim (hts w) (fun h => va_Nw.use (ns_on h) (hKW.2.1 w h))
  have hg : ∀ w, w ∈ gd_L ∨ w ∈ ns_L → vx_ot w = true := fun w hw => by
    unfold vx_ot
    rcases hw with h | h
    · rw [gd_good h, Bool.or_true]
    · rw [ns_on h, Bool.true_or]
  have hcat' : ((st.map (sh ω)).map fun v => v.category).sum ≤ 8 := by
    rw [List.map_map]; rw [show (fun v : Value => v.category) ∘ sh ω = (fun v : Value => v.category) from funext (sh_cat ω)]; exact hcat
  have hkp := jv_keep hbs
  refine vx_throwSW (A := mA ω) (names := ["java/lang/RuntimeException", "java/lang/Exception"]) hxe hb hst hown hfit (by decide +kernel) (hts _ t1) (hts _ t2) (hKW.2.2.2.2.1 _ t3) (fun w hw' => hw w (t4 w hw')) (fun w hw' => ?_) (hKW.2.2.2.2.2.1.kept hkp) (hKW.2.2.2.2.2.2.1.kept hkp) hS (by rw [hml, hl.1]) d0 d3 d4 d6 d9 (fun x hx => (htab x hx).elim) (by have := hR.1; show 2 + 3 < _; omega) (by have := hR.2.2.2; show _ + (13 * (2 + 1) + 43) ≤ _; omega) hR.2.1 hR.2.2.1 hlk (fun t ha hsz hq => ?_) hS.2.2 (Nat.le_refl _) (Nat.le_refl _)
  · rcases List.mem_cons.mp hw' with rfl | hw'
    · exact hg _ (Or.inl t1)
    · rcases List.mem_cons.mp hw' with rfl | hw'
      · exact hg _ (Or.inl t2)
      · exact hg _ (t4 w hw')
  · refine ⟨hx.symm, ⟨t.heap.size - (wz ω + M.length), hP.kept (fun q x hx => hq x.1 ((hP q x hx).lt)), by omega⟩, Nat.le_trans hS.1 hsz, fun q h1 h2 => ?_⟩
    rw [hq q (Nat.lt_of_lt_of_le h1 hS.1)]
    exact hS.2.1 q h1 h2
end JX
theorem CT.of {l : Launch} {ω : Wd} {k : Nat} {y : MethodName} {cc : ByteArray} {mL : Nat} {ret : Option FieldType} {h : Nat} {av : List Value} {M M' : Mem} {E : String} (hy : plainName y.cls = true) (hlen : (lg_sl av).length ≤ mL)
    (body : ∀ Γ : Gm, Γ.2.1 = l → Cx Γ cc mL y.cls ω h 1 6 → (∀ x ∈ Γ.c.exceptionTable.toList, False) → JJ Γ (QT Γ ω E M') mL ω k M 0 0 0 (lv_args 0 av) []) : CT l ω k y cc mL ret h av M E M' := by
  refine vx_ofW (cc := cc) (maxL := mL) (ret := ret) hy rfl ?_
  intro p e s m args below meth c s₁ B hml htab hv
  obtain ⟨rfl, hKW, hP, hz, hb0⟩ := hv
  have hts := atoms_spec (ws := Cond.code y cc mL ret :: gd_L) B.pre
  have hC : Cx (p, l, e, rm_ h 1 6, s, m, (av.map (sh ω)).toArray, below, meth, c) cc mL y.cls ω h 1 6 := ⟨B.exec, B.bytes, hml, findClass_of_methodNamed B.named, fun w hw => hts w (List.mem_cons_of_mem _ hw), hKW, B.notSynchronized, ⟨by show wz ω ≤ s.heap.size; omega, hb0⟩, ⟨Nat.le_refl _, Nat.le_refl _, Nat.le_refl _, Nat.le_refl _⟩⟩
  have hb1 := body (p, l, e, rm_ h 1 6, s, m, (av.map (sh ω)).toArray, below, meth, c) rfl hC htab
  have hsl : (lg_sl (av.map (sh ω))).length = (lg_sl av).length := by
    clear hb1 hC hts hP hz hb0 hKW B hml body hlen
    induction av with
    | nil => rfl
    | cons v vs ih =>
      simp only [lg_sl, List.map_cons, List.flatMap_cons, List.length_append, sh_cat] at ih ⊢
      rw [ih]
      congr 1
      split <;> rfl
  have hl := lv_entry (av.map (sh ω)) (n := mL) (by rw [hsl]; exact hlen)
  rw [shL_args] at hl
  rw [lg_entry_eq]
  exact hb1 s.heap [] _ hl hP hz va_S.rf
/-- a method with handlers: it returns; how many cells lie behind the small heap afterwards isn't told -/
def QK (ω : Wd) (r : Option Value) (M' : Mem) : Array Value → State → Outcome → State → Prop := fun _ st o t => o = .returned (r.map (sh ω)) ∧ (∃ k', va_P ω.2.2.2 cl_L (toW ω M') t.heap ∧ t.heap.size = wz ω + M'.length + k') ∧ va_F (mA ω) st t
def CK (l : Launch) (ω : Wd) (k : Nat) (y : MethodName) (cc : ByteArray) (mL : Nat) (ret : Option FieldType) (tb : List (Nat × Nat × Nat × Nat)) (h : Nat) (av : List Value) (M : Mem) (r : Option Value) (M' : Mem) : Prop :=
  Met l y (Cond.codeWith y cc mL ret tb :: gd_L) (rm_ h 1 6) (PC ω k M av) (QK ω r M') 1 6 (mA ω)
abbrev QG (Γ : Gm) (ω : Wd) (r : Option Value) (M' : Mem) : State → Prop := MQ Γ.below (QK ω r M') Γ.args Γ.s 1 6 (mA ω)
theorem CK.of {l : Launch} {ω : Wd} {k : Nat} {y : MethodName} {cc : ByteArray} {mL : Nat} {ret : Option FieldType} {tb : List (Nat × Nat × Nat × Nat)} {h : Nat} {av : List Value} {M M' : Mem} {r : Option Value} (hy : plainName y.cls = true) (hlen : (lg_sl av).length ≤ mL)
    (body : ∀ Γ : Gm, Γ.2.1 = l → Cx Γ cc mL y.cls ω h 1 6 → Γ.meth.sig.returnType = ret → Γ.c.exceptionTable.toList = tableOf tb → JJ Γ (QG Γ ω r M') mL ω k M 0 0 0 (lv_args 0 av) []) : CK l ω k y cc mL ret tb h av M r M' := by
  refine va_MetW (cc := cc) (maxL := mL) (ret := ret) (hh := tb) hy rfl ?_
  intro p e s m args below meth c s₁ B hml hv
  have hts := atoms_spec (ws := Cond.codeWith y cc mL ret tb :: gd_L) B.pre
  have htab := vx_table (x := y) B (hts _ List.mem_cons_self)
  obtain ⟨rfl, hKW, hP, hz, hb0⟩ := hv
  have hC : Cx (p, l, e, rm_ h 1 6, s, m, (av.map (sh ω)).toArray, below, meth, c) cc mL y.cls ω h 1 6 := ⟨B.exec, B.bytes, hml, findClass_of_methodNamed B.named, fun w hw => hts w (List.mem_cons_of_mem _ hw), hKW, B.notSynchronized, ⟨by show wz ω ≤ s.heap.size; omega, hb0⟩, ⟨Nat.le_refl _, Nat.le_refl _, Nat.le_refl _, Nat.le_refl _⟩⟩
  have hb1 := body (p, l, e, rm_ h 1 6, s, m, (av.map (sh ω)).toArray, below, meth, c) rfl hC B.returns htab
  have hsl : (lg_sl (av.map (sh ω))).length = (lg_sl av).length := by
    clear hb1 hC hts hP hz hb0 hKW htab B hml body hlen
    induction av with
    | nil => rfl
    | cons v vs ih =>
      simp only [lg_sl, List.map_cons, List.flatMap_cons, List.length_append, sh_cat] at ih ⊢
      rw [ih]
      congr 1
      split <;> rfl
  have hl := lv_entry (av.map (sh ω)) (n := mL) (by rw [hsl]; exact hlen)
  rw [shL_args] at hl
  rw [lg_entry_eq]
  exact hb1 s.heap [] _ hl hP hz va_S.rf
section JK
variable {Γ : Gm} {Q : State → Prop} {nL k : Nat} {ω : Wd} {M : Mem} {ce sl pc : Nat} {lv : List (Nat × Value)} {st : List Value} {cc : ByteArray} {own : String} {hh mT sT : Nat}
theorem jv_kret (C : Cx Γ cc nL own ω hh 1 6) (hr : Γ.meth.sig.returnType = some .int) {x : Int32} (hce : ce ≤ 1) (hsl : sl ≤ 6) (d : decode cc pc = .ok (.ireturn, 1)) : JJ Γ (QG Γ ω (some (.int x)) M) nL ω k M ce sl pc lv [.int x] := by
  refine jv_widen (ce' := 1) (sl' := 6) hce hsl ?_
  obtain ⟨hx, hb, hml, hown, hts, hKW, hlk, hbs, hR⟩ := C
  intro H locs ls hl hP hz hS
  exact W.iret hx hb hr (fun t ht hW => ⟨rfl, ⟨k, by rw [ht]; exact hP, by rw [ht]; exact hz⟩, hS.F ht⟩) hS.2.2 d hlk
/-- a callee that throws E, caught at the row number n of the table -/
theorem jv_caught (C : Cx Γ cc nL own ω hh mT sT) {idx a ci n mL h' : Nat} {y : MethodName} {c' : ByteArray} {ret : Option FieldType} {T : u_T} {N : Nat} {As stk : List Value} {E nm : String} {M' : Mem} (L : jv_LV own idx y c' mL ret n) (hlk2 : Cond.methodLink own idx y ∈ gd_L) (hc : cl_L[ci]? = some (y.cls, T, N)) {u : Unit} (hk : mm_ck M a ci = some u) (d : decode cc pc = .ok (.invokevirtual idx, 3)) (hn : As.length = n) (hst : stk = As.reverse ++ .ref a :: st) (hh1 : h' + 1 ≤ hh) (hce : ce + 1 ≤ mT) (hsl : sl + 6 ≤ sT) (hcat : (st.map fun v => v.category).sum ≤ 8)
    (ct : CT Γ.2.1 ω k y c' mL ret h' (.ref a :: As) M E M') (pre : List ExceptionTableEntry) (x : ExceptionTableEntry) (suf : List ExceptionTableEntry) (hsplit : Γ.c.exceptionTable.toList = pre ++ x :: suf)
    (hpass : ∀ z ∈ pre, covers z pc = false ∨ (z.catchType ≠ 0 ∧ ∃ nm : String, Cond.classLink own z.catchType nm ∈ gd_L ∧ va_Nc E nm Γ.s)) (hx : covers x pc = true) (h0 : x.catchType ≠ 0) (hlink : Cond.classLink own x.catchType nm ∈ gd_L) (hcast : Cond.castable E nm ∈ ns_L)
    {i : Nat} {lv' : List (Nat × Value)} (d2 : decode cc x.handlerPc = .ok (.astore i, 2)) (hi : i < nL) (hlv : lv.filter (fun q => !(q.1 == i) && !(q.1 + 1 == i && q.2.category == 2)) = lv') (kk : ∀ k', JJ Γ Q nL ω k' M' (ce + 1) (sl + 6) (x.handlerPc + 2) lv' []) : JJ Γ Q nL ω k M ce sl pc lv stk := by
  obtain ⟨hx0, hb, hml, hown, hts, hKW, hlk, hbs, hR⟩ := C
  obtain ⟨⟨lk, li, lc, ld, lm⟩, l1, l2⟩ := L
  intro H locs ls hl hP hz hS
  obtain ⟨fs, hfs⟩ := mm_ck_spec hk
  have hcat' : ((st.map (sh ω)).map fun v => v.category).sum ≤ 8 := by
    rw [List.map_map]; rw [show (fun v : Value => v.category) ∘ sh ω = (fun v : Value => v.category) from funext (sh_cat ω)]; exact hcat
  have hrm : (rm_ h' 1 6).frames + 1 ≤ Γ.2.2.2.1.frames ∧ 8 + (mL + 11) + (rm_ h' 1 6).locals ≤ Γ.2.2.2.1.locals := by
    obtain ⟨r1, -, -, r4⟩ := hR; exact ⟨Nat.le_trans hh1 r1, by show 8 + (mL + 11) + 100 * h' ≤ _; omega⟩
  have hpre : PreV Γ.s H y.cls (wz ω + a) (PC ω k M (.ref a :: As)) (As.map (sh ω)) := ⟨PC.blind, va_recv hKW.1 hP hc (q0 := a) (toW_at hfs), fun U hU hW => jv_pre (av := .ref a :: As) hKW hbs hP hz hS hU hW⟩
  have hstk : stk.map (sh ω) = (As.map (sh ω)).reverse ++ .ref (wz ω + a) :: st.map (sh ω) := by rw [hst]; simp [sh]
  have hce' : ce + 1 ≤ Γ.2.2.2.1.cells ∧ sl + 6 ≤ Γ.2.2.2.1.slots := ⟨Nat.le_trans hce hR.2.1, Nat.le_trans hsl hR.2.2.1⟩
  have hrun := vx_runV (As := As.map (sh ω)) (rest := st.map (sh ω)) (b := wz ω + a) (C := y.cls) (Ts := gd_L) (g := F0 Γ.m pc ls (stk.map (sh ω))) (H := H) (locs := locs) (below := Γ.below) (meth := Γ.meth) (e := Γ.2.2.1) (cells := ce) (slots := sl) ⟨hx0, hb, hml, hown, hts⟩ ct ⟨callB_of n hts (gd_in lc) rfl rfl rfl (hts _ li) (hts _ hlk2) ld hrm, hts _ l1, hts _ l2⟩ hpre rfl (by rw [List.length_map]; exact hn) hl.1 hstk (lv_room hcat') d hce'
  intro T0 hT X
  rcases hrun T0 hT X with ⟨v, st₀, t, T', L, g1, X', hL, e1, e2, hq, stp⟩ | ⟨q, st₀, t, T', L, E', cel, g0, X', hL, e1, e2, ⟨rfl, ⟨k', hP1, hz1⟩, f1, f2⟩, hce9, hcv, hcl, stp⟩
  · exact hq.elim
  · rw [g0] at f1 f2
    have hS1 : va_S (mA ω) Γ.s.heap T'.heap (locs ++ L) := ⟨Nat.le_trans hS.1 (by rw [e1]; exact f1), fun q h1 h2 => by rw [e1, f2 q (Nat.lt_of_lt_of_le h1 hS.1) h2]; exact hS.2.1 q h1 h2, fun q hq => by
      rcases List.mem_append.mp hq with h | h
      · exact hS.2.2 q h
      · exact hL q h⟩
    have h9 : W Γ.1 Γ.2.1 Γ.2.2.1 Γ.2.2.2.1 Γ.s Γ.m Γ.args Γ.below Γ.meth Γ.c T'.heap (locs ++ L) (ce + 1) (sl + 6) Q (F0 Γ.m x.handlerPc ls [.ref q]) := by
      refine lv_astore (x := q) hx0 hb d2 hl hi rfl (fun ls2 hl2 => ?_)
      refine kk k' T'.heap (locs ++ L) ls2 ?_ (by rw [e1]; exact hP1) (by rw [e1]; exact hz1) hS1
      subst hlv
      refine ⟨hl2.1, hl2.2.1, fun z hz => hl2.2.2 z (List.mem_cons_of_mem _ ?_)⟩
      simp only [shL, List.filter_map] at hz ⊢
      have e7 : ((fun q : Nat × Value => !(q.1 == i) && !(q.1 + 1 == i && q.2.category == 2)) ∘ fun q : Nat × Value => (q.1, sh ω q.2)) = (fun q : Nat × Value => !(q.1 == i) && !(q.1 + 1 == i && q.2.category == 2)) := by
        funext q
        simp [Function.comp, sh_cat]
      rw [e7]
      exact hz
    obtain ⟨t2, a1, b1⟩ := vx_catch (E := E') (name := nm) (ce := cel) (q := q) (pc := pc) (ls := ls) (rest := st.map (sh ω)) hown pre x suf hsplit (fun z hz => (hpass z hz).imp id (fun ⟨z0, nm2, w1, w2⟩ => ⟨z0, nm2, hts _ w1, w2⟩)) hx h0 (hts _ hlink) (va_Nw.use rfl (hKW.2.1 _ hcast)) (by rw [e1]; exact hce9) hcv hcl h9 T' rfl X'
    exact ⟨t2, stp.trans a1, b1⟩
end JK
