def mm_b2 {α ρ : Type} (x : Option (α × Mem)) (K : α → Mem → Option ρ) : Option ρ := match x with
  | some q => K q.1 q.2
  | none => none
def mm_nm {ρ : Type} (a : Nat) (M : Mem) (K : Nat → Mem → Option ρ) : Option ρ := K a M
def mm_lt {ρ : Type} (x : Int32) (K : Int32 → Option ρ) : Option ρ := K x
theorem mm_b2_spec {α ρ : Type} {x : Option (α × Mem)} {K : α → Mem → Option ρ} {res : ρ} (h : mm_b2 x K = some res) : ∃ r M, x = some (r, M) ∧ K r M = some res := by
  cases x with
  | none => cases h
  | some q => exact ⟨q.1, q.2, rfl, h⟩
section JV2
variable {Γ : Gm} {Q : State → Prop} {nL k : Nat} {ω : Wd} {M : Mem} {ce sl pc : Nat} {lv : List (Nat × Value)} {st : List Value} {cc : ByteArray} {own : String} {hh mT sT : Nat} {ρ : Type} {res : ρ}
theorem jv_name {a0 : Nat} {K : Nat → Mem → Option ρ} (h : mm_nm a0 M K = some res) (kk : ∀ a M, K a M = some res → JJ Γ Q nL ω k M ce sl pc lv (.ref a :: st)) : JJ Γ Q nL ω k M ce sl pc lv (.ref a0 :: st) := kk a0 M h
theorem jv_nameI {x : Int32} {K : Int32 → Option ρ} (h : mm_lt x K = some res) (kk : ∀ v, K v = some res → JJ Γ Q nL ω k M ce sl pc lv (.int v :: st)) : JJ Γ Q nL ω k M ce sl pc lv (.int x :: st) := kk x h
theorem jv_zretc (C : Cx Γ cc nL own ω hh mT sT) (hr : Γ.meth.sig.returnType = some .boolean) {x : Int32} (hx : x = 0 ∨ x = 1) {r : Int32} {M' : Mem} (d : decode cc pc = .ok (.ireturn, 1)) (h : some (x, M) = some (r, M')) : JJ Γ (QF Γ ω k ce sl (some (.int r)) M') nL ω k M ce sl pc lv [.int x] := jv_zret C hr d (by rw [if_pos hx]; exact h)
theorem jv_if_eqkt (C : Cx Γ cc nL own ω hh mT sT) {x : Int32} {off : Int} {tgt : Nat} (d : decode cc pc = .ok (.ifCond .eq off, 3)) (ht : (pc : Int) + off = (tgt : Int)) (hc : x = 0) (kk : JJ Γ Q nL ω k M ce sl tgt lv st) : JJ Γ Q nL ω k M ce sl pc lv (.int x :: st) := by
  obtain ⟨hx, hb, -⟩ := C
  intro H locs ls hl hP hz hS
  exact lv_if_eq hx hb d ht (fun _ => kk H locs ls hl hP hz hS) (fun c => absurd hc c)
theorem jv_if_eqkf (C : Cx Γ cc nL own ω hh mT sT) {x : Int32} {off : Int} {tgt : Nat} (d : decode cc pc = .ok (.ifCond .eq off, 3)) (ht : (pc : Int) + off = (tgt : Int)) (hc : ¬ x = 0) (kk : JJ Γ Q nL ω k M ce sl (pc + 3) lv st) : JJ Γ Q nL ω k M ce sl pc lv (.int x :: st) := by
  obtain ⟨hx, hb, -⟩ := C
  intro H locs ls hl hP hz hS
  exact lv_if_eq hx hb d ht (fun c => absurd c hc) (fun _ => kk H locs ls hl hP hz hS)
theorem jv_icmp_eqkt (C : Cx Γ cc nL own ω hh mT sT) {x y : Int32} {off : Int} {tgt : Nat} (d : decode cc pc = .ok (.if_icmp .eq off, 3)) (ht : (pc : Int) + off = (tgt : Int)) (hc : x = y) (kk : JJ Γ Q nL ω k M ce sl tgt lv st) : JJ Γ Q nL ω k M ce sl pc lv (.int y :: .int x :: st) := by
  obtain ⟨hx, hb, -⟩ := C
  intro H locs ls hl hP hz hS
  exact lv_icmp_eq hx hb d ht (fun _ => kk H locs ls hl hP hz hS) (fun c => absurd hc c)
theorem jv_icmp_eqkf (C : Cx Γ cc nL own ω hh mT sT) {x y : Int32} {off : Int} {tgt : Nat} (d : decode cc pc = .ok (.if_icmp .eq off, 3)) (ht : (pc : Int) + off = (tgt : Int)) (hc : ¬ x = y) (kk : JJ Γ Q nL ω k M ce sl (pc + 3) lv st) : JJ Γ Q nL ω k M ce sl pc lv (.int y :: .int x :: st) := by
  obtain ⟨hx, hb, -⟩ := C
  intro H locs ls hl hP hz hS
  exact lv_icmp_eq hx hb d ht (fun c => absurd c hc) (fun _ => kk H locs ls hl hP hz hS)
theorem jv_if_nekt (C : Cx Γ cc nL own ω hh mT sT) {x : Int32} {off : Int} {tgt : Nat} (d : decode cc pc = .ok (.ifCond .ne off, 3)) (ht : (pc : Int) + off = (tgt : Int)) (hc : ¬ x = 0) (kk : JJ Γ Q nL ω k M ce sl tgt lv st) : JJ Γ Q nL ω k M ce sl pc lv (.int x :: st) := by
  obtain ⟨hx, hb, -⟩ := C
  intro H locs ls hl hP hz hS
  exact lv_if_ne hx hb d ht (fun _ => kk H locs ls hl hP hz hS) (fun c => absurd c hc)
theorem jv_if_nekf (C : Cx Γ cc nL own ω hh mT sT) {x : Int32} {off : Int} {tgt : Nat} (d : decode cc pc = .ok (.ifCond .ne off, 3)) (ht : (pc : Int) + off = (tgt : Int)) (hc : x = 0) (kk : JJ Γ Q nL ω k M ce sl (pc + 3) lv st) : JJ Γ Q nL ω k M ce sl pc lv (.int x :: st) := by
  obtain ⟨hx, hb, -⟩ := C
  intro H locs ls hl hP hz hS
  exact lv_if_ne hx hb d ht (fun c => absurd hc c) (fun _ => kk H locs ls hl hP hz hS)
theorem jv_icmp_nekt (C : Cx Γ cc nL own ω hh mT sT) {x y : Int32} {off : Int} {tgt : Nat} (d : decode cc pc = .ok (.if_icmp .ne off, 3)) (ht : (pc : Int) + off = (tgt : Int)) (hc : ¬ x = y) (kk : JJ Γ Q nL ω k M ce sl tgt lv st) : JJ Γ Q nL ω k M ce sl pc lv (.int y :: .int x :: st) := by
  obtain ⟨hx, hb, -⟩ := C
  intro H locs ls hl hP hz hS
  exact lv_icmp_ne hx hb d ht (fun _ => kk H locs ls hl hP hz hS) (fun c => absurd c hc)
theorem jv_icmp_nekf (C : Cx Γ cc nL own ω hh mT sT) {x y : Int32} {off : Int} {tgt : Nat} (d : decode cc pc = .ok (.if_icmp .ne off, 3)) (ht : (pc : Int) + off = (tgt : Int)) (hc : x = y) (kk : JJ Γ Q nL ω k M ce sl (pc + 3) lv st) : JJ Γ Q nL ω k M ce sl pc lv (.int y :: .int x :: st) := by
  obtain ⟨hx, hb, -⟩ := C
  intro H locs ls hl hP hz hS
  exact lv_icmp_ne hx hb d ht (fun c => absurd hc c) (fun _ => kk H locs ls hl hP hz hS)
theorem jv_if_ltkt (C : Cx Γ cc nL own ω hh mT sT) {x : Int32} {off : Int} {tgt : Nat} (d : decode cc pc = .ok (.ifCond .lt off, 3)) (ht : (pc : Int) + off = (tgt : Int)) (hc : x < 0) (kk : JJ Γ Q nL ω k M ce sl tgt lv st) : JJ Γ Q nL ω k M ce sl pc lv (.int x :: st) := by
  obtain ⟨hx, hb, -⟩ := C
  intro H locs ls hl hP hz hS
  exact lv_if_lt hx hb d ht (fun _ => kk H locs ls hl hP hz hS) (fun c => absurd hc c)
theorem jv_if_ltkf (C : Cx Γ cc nL own ω hh mT sT) {x : Int32} {off : Int} {tgt : Nat} (d : decode cc pc = .ok (.ifCond .lt off, 3)) (ht : (pc : Int) + off = (tgt : Int)) (hc : ¬ x < 0) (kk : JJ Γ Q nL ω k M ce sl (pc + 3) lv st) : JJ Γ Q nL ω k M ce sl pc lv (.int x :: st) := by
  obtain ⟨hx, hb, -⟩ := C
  intro H locs ls hl hP hz hS
  exact lv_if_lt hx hb d ht (fun c => absurd c hc) (fun _ => kk H locs ls hl hP hz hS)
theorem jv_icmp_ltkt (C : Cx Γ cc nL own ω hh mT sT) {x y : Int32} {off : Int} {tgt : Nat} (d : decode cc pc = .ok (.if_icmp .lt off, 3)) (ht : (pc : Int) + off = (tgt : Int)) (hc : x < y) (kk : JJ Γ Q nL ω k M ce sl tgt lv st) : JJ Γ Q nL ω k M ce sl pc lv (.int y :: .int x :: st) := by
  obtain ⟨hx, hb, -⟩ := C
  intro H locs ls hl hP hz hS
  exact lv_icmp_lt hx hb d ht (fun _ => kk H locs ls hl hP hz hS) (fun c => absurd hc c)
theorem jv_icmp_ltkf (C : Cx Γ cc nL own ω hh mT sT) {x y : Int32} {off : Int} {tgt : Nat} (d : decode cc pc = .ok (.if_icmp .lt off, 3)) (ht : (pc : Int) + off = (tgt : Int)) (hc : ¬ x < y) (kk : JJ Γ Q nL ω k M ce sl (pc + 3) lv st) : JJ Γ Q nL ω k M ce sl pc lv (.int y :: .int x :: st) := by
  obtain ⟨hx, hb, -⟩ := C
  intro H locs ls hl hP hz hS
  exact lv_icmp_lt hx hb d ht (fun c => absurd c hc) (fun _ => kk H locs ls hl hP hz hS)
theorem jv_if_gekt (C : Cx Γ cc nL own ω hh mT sT) {x : Int32} {off : Int} {tgt : Nat} (d : decode cc pc = .ok (.ifCond .ge off, 3)) (ht : (pc : Int) + off = (tgt : Int)) (hc : 0 ≤ x) (kk : JJ Γ Q nL ω k M ce sl tgt lv st) : JJ Γ Q nL ω k M ce sl pc lv (.int x :: st) := by
  obtain ⟨hx, hb, -⟩ := C
  intro H locs ls hl hP hz hS
  exact lv_if_ge hx hb d ht (fun _ => kk H locs ls hl hP hz hS) (fun c => absurd hc c)
theorem jv_if_gekf (C : Cx Γ cc nL own ω hh mT sT) {x : Int32} {off : Int} {tgt : Nat} (d : decode cc pc = .ok (.ifCond .ge off, 3)) (ht : (pc : Int) + off = (tgt : Int)) (hc : ¬ 0 ≤ x) (kk : JJ Γ Q nL ω k M ce sl (pc + 3) lv st) : JJ Γ Q nL ω k M ce sl pc lv (.int x :: st) := by
  obtain ⟨hx, hb, -⟩ := C
  intro H locs ls hl hP hz hS
  exact lv_if_ge hx hb d ht (fun c => absurd c hc) (fun _ => kk H locs ls hl hP hz hS)
theorem jv_icmp_gekt (C : Cx Γ cc nL own ω hh mT sT) {x y : Int32} {off : Int} {tgt : Nat} (d : decode cc pc = .ok (.if_icmp .ge off, 3)) (ht : (pc : Int) + off = (tgt : Int)) (hc : y ≤ x) (kk : JJ Γ Q nL ω k M ce sl tgt lv st) : JJ Γ Q nL ω k M ce sl pc lv (.int y :: .int x :: st) := by
  obtain ⟨hx, hb, -⟩ := C
  intro H locs ls hl hP hz hS
  exact lv_icmp_ge hx hb d ht (fun _ => kk H locs ls hl hP hz hS) (fun c => absurd hc c)
theorem jv_icmp_gekf (C : Cx Γ cc nL own ω hh mT sT) {x y : Int32} {off : Int} {tgt : Nat} (d : decode cc pc = .ok (.if_icmp .ge off, 3)) (ht : (pc : Int) + off = (tgt : Int)) (hc : ¬ y ≤ x) (kk : JJ Γ Q nL ω k M ce sl (pc + 3) lv st) : JJ Γ Q nL ω k M ce sl pc lv (.int y :: .int x :: st) := by
  obtain ⟨hx, hb, -⟩ := C
  intro H locs ls hl hP hz hS
  exact lv_icmp_ge hx hb d ht (fun c => absurd c hc) (fun _ => kk H locs ls hl hP hz hS)
theorem jv_if_gtkt (C : Cx Γ cc nL own ω hh mT sT) {x : Int32} {off : Int} {tgt : Nat} (d : decode cc pc = .ok (.ifCond .gt off, 3)) (ht : (pc : Int) + off = (tgt : Int)) (hc : 0 < x) (kk : JJ Γ Q nL ω k M ce sl tgt lv st) : JJ Γ Q nL ω k M ce sl pc lv (.int x :: st) := by
  obtain ⟨hx, hb, -⟩ := C
  intro H locs ls hl hP hz hS
  exact lv_if_gt hx hb d ht (fun _ => kk H locs ls hl hP hz hS) (fun c => absurd hc c)
theorem jv_if_gtkf (C : Cx Γ cc nL own ω hh mT sT) {x : Int32} {off : Int} {tgt : Nat} (d : decode cc pc = .ok (.ifCond .gt off, 3)) (ht : (pc : Int) + off = (tgt : Int)) (hc : ¬ 0 < x) (kk : JJ Γ Q nL ω k M ce sl (pc + 3) lv st) : JJ Γ Q nL ω k M ce sl pc lv (.int x :: st) := by
  obtain ⟨hx, hb, -⟩ := C
  intro H locs ls hl hP hz hS
  exact lv_if_gt hx hb d ht (fun c => absurd c hc) (fun _ => kk H locs ls hl hP hz hS)
theorem jv_icmp_gtkt (C : Cx Γ cc nL own ω hh mT sT) {x y : Int32} {off : Int} {tgt : Nat} (d : decode cc pc = .ok (.if_icmp .gt off, 3)) (ht : (pc : Int) + off = (tgt : Int)) (hc : y < x) (kk : JJ Γ Q nL ω k M ce sl tgt lv st) : JJ Γ Q nL ω k M ce sl pc lv (.int y :: .int x :: st) := by
  obtain ⟨hx, hb, -⟩ := C
  intro H locs ls hl hP hz hS
  exact lv_icmp_gt hx hb d ht (fun _ => kk H locs ls hl hP hz hS) (fun c => absurd hc c)
theorem jv_icmp_gtkf (C : Cx Γ cc nL own ω hh mT sT) {x y : Int32} {off : Int} {tgt : Nat} (d : decode cc pc = .ok (.if_icmp .gt off, 3)) (ht : (pc : Int) + off = (tgt : Int)) (hc : ¬ y < x) (kk : JJ Γ Q nL ω k M ce sl (pc + 3) lv st) : JJ Γ Q nL ω k M ce sl pc lv (.int y :: .int x :: st) := by
  obtain ⟨hx, hb, -⟩ := C
  intro H locs ls hl hP hz hS
  exact lv_icmp_gt hx hb d ht (fun c => absurd c hc) (fun _ => kk H locs ls hl hP hz hS)
theorem jv_if_lekt (C : Cx Γ cc nL own ω hh mT sT) {x : Int32} {off : Int} {tgt : Nat} (d : decode cc pc = .ok (.ifCond .le off, 3)) (ht : (pc : Int) + off = (tgt : Int)) (hc : x ≤ 0) (kk : JJ Γ Q nL ω k M ce sl tgt lv st) : JJ Γ Q nL ω k M ce sl pc lv (.int x :: st) := by
  obtain ⟨hx, hb, -⟩ := C
  intro H locs ls hl hP hz hS
  exact lv_if_le hx hb d ht (fun _ => kk H locs ls hl hP hz hS) (fun c => absurd hc c)
theorem jv_if_lekf (C : Cx Γ cc nL own ω hh mT sT) {x : Int32} {off : Int} {tgt : Nat} (d : decode cc pc = .ok (.ifCond .le off, 3)) (ht : (pc : Int) + off = (tgt : Int)) (hc : ¬ x ≤ 0) (kk : JJ Γ Q nL ω k M ce sl (pc + 3) lv st) : JJ Γ Q nL ω k M ce sl pc lv (.int x :: st) := by
  obtain ⟨hx, hb, -⟩ := C
  intro H locs ls hl hP hz hS
  exact lv_if_le hx hb d ht (fun c => absurd c hc) (fun _ => kk H locs ls hl hP hz hS)
theorem jv_icmp_lekt (C : Cx Γ cc nL own ω hh mT sT) {x y : Int32} {off : Int} {tgt : Nat} (d : decode cc pc = .ok (.if_icmp .le off, 3)) (ht : (pc : Int) + off = (tgt : Int)) (hc : x ≤ y) (kk : JJ Γ Q nL ω k M ce sl tgt lv st) : JJ Γ Q nL ω k M ce sl pc lv (.int y :: .int x :: st) := by
  obtain ⟨hx, hb, -⟩ := C
  intro H locs ls hl hP hz hS
  exact lv_icmp_le hx hb d ht (fun _ => kk H locs ls hl hP hz hS) (fun c => absurd hc c)
theorem jv_icmp_lekf (C : Cx Γ cc nL own ω hh mT sT) {x y : Int32} {off : Int} {tgt : Nat} (d : decode cc pc = .ok (.if_icmp .le off, 3)) (ht : (pc : Int) + off = (tgt : Int)) (hc : ¬ x ≤ y) (kk : JJ Γ Q nL ω k M ce sl (pc + 3) lv st) : JJ Γ Q nL ω k M ce sl pc lv (.int y :: .int x :: st) := by
  obtain ⟨hx, hb, -⟩ := C
  intro H locs ls hl hP hz hS
  exact lv_icmp_le hx hb d ht (fun c => absurd c hc) (fun _ => kk H locs ls hl hP hz hS)
theorem jv_vI (C : Cx Γ cc nL own ω hh mT sT) {idx a ci n mL h' mc ms : Nat} {y : MethodName} {c' : ByteArray} {ret : Option FieldType} {T : u_T} {N : Nat} {As stk : List Value} (L : jv_LV own idx y c' mL ret n) (hc : cl_L[ci]? = some (y.cls, T, N)) (d : decode cc pc = .ok (.invokevirtual idx, 3)) (hn : As.length = n) (hst : stk = As.reverse ++ .ref a :: st) (hh1 : h' + 1 ≤ hh) (hce : ce + mc ≤ mT) (hsl : sl + ms ≤ sT) (hcat : (st.map fun v => v.category).sum ≤ 8) {F : Option (Int32 × Mem)} {K : Int32 → Mem → Option ρ} (h : ((mm_ck M a ci).bind fun _ => mm_b2 F K) = some res) (ct : ∀ r M', F = some (r, M') → CM Γ.2.1 ω k y c' mL ret h' mc ms (.ref a :: As) M (some (.int r)) M') (kk : ∀ r M', K r M' = some res → JJ Γ Q nL ω k M' (ce + mc) (sl + ms) (pc + 3) lv (.int r :: st)) : JJ Γ Q nL ω k M ce sl pc lv stk := by
  obtain ⟨u, h1, h2⟩ := Option.bind_eq_some_iff.mp h
  obtain ⟨r, M2, h3, h4⟩ := mm_b2_spec h2
  exact jv_callV C L hc h1 d hn hst hh1 hce hsl hcat (ct r M2 h3) (kk r M2 h4)
theorem jv_sI (C : Cx Γ cc nL own ω hh mT sT) {idx n mL h' mc ms : Nat} {y : MethodName} {c' : ByteArray} {ret : Option FieldType} {As stk : List Value} (L : jv_LS own idx y c' mL ret n) (d : decode cc pc = .ok (.invokestatic idx, 3)) (hn : As.length = n) (hst : stk = As.reverse ++ st) (hh1 : h' + 1 ≤ hh) (hce : ce + mc ≤ mT) (hsl : sl + ms ≤ sT) (hcat : (st.map fun v => v.category).sum ≤ 8) {F : Option (Int32 × Mem)} {K : Int32 → Mem → Option ρ} (h : mm_b2 F K = some res) (ct : ∀ r M', F = some (r, M') → CM Γ.2.1 ω k y c' mL ret h' mc ms As M (some (.int r)) M') (kk : ∀ r M', K r M' = some res → JJ Γ Q nL ω k M' (ce + mc) (sl + ms) (pc + 3) lv (.int r :: st)) : JJ Γ Q nL ω k M ce sl pc lv stk := by
  obtain ⟨r, M2, h3, h4⟩ := mm_b2_spec h
  exact jv_callS C L d hn hst hh1 hce hsl hcat (ct r M2 h3) (kk r M2 h4)
theorem jv_vI0 (C : Cx Γ cc nL own ω hh mT sT) {idx a ci n mL h' : Nat} {y : MethodName} {c' : ByteArray} {ret : Option FieldType} {T : u_T} {N : Nat} {As stk : List Value} (L : jv_LV own idx y c' mL ret n) (hc : cl_L[ci]? = some (y.cls, T, N)) (d : decode cc pc = .ok (.invokevirtual idx, 3)) (hn : As.length = n) (hst : stk = As.reverse ++ .ref a :: st) (hh1 : h' + 1 ≤ hh) (hce : ce + 0 ≤ mT) (hsl : sl + 0 ≤ sT) (hcat : (st.map fun v => v.category).sum ≤ 8) {F : Option (Int32 × Mem)} {K : Int32 → Mem → Option ρ} (h : ((mm_ck M a ci).bind fun _ => mm_b2 F K) = some res) (ct : ∀ r M', F = some (r, M') → CM Γ.2.1 ω k y c' mL ret h' 0 0 (.ref a :: As) M (some (.int r)) M') (kk : ∀ r M', K r M' = some res → JJ Γ Q nL ω k M' ce sl (pc + 3) lv (.int r :: st)) : JJ Γ Q nL ω k M ce sl pc lv stk := by
  obtain ⟨u, h1, h2⟩ := Option.bind_eq_some_iff.mp h
  obtain ⟨r, M2, h3, h4⟩ := mm_b2_spec h2
  exact jv_callV C L hc h1 d hn hst hh1 hce hsl hcat (ct r M2 h3) (kk r M2 h4)
theorem jv_sI0 (C : Cx Γ cc nL own ω hh mT sT) {idx n mL h' : Nat} {y : MethodName} {c' : ByteArray} {ret : Option FieldType} {As stk : List Value} (L : jv_LS own idx y c' mL ret n) (d : decode cc pc = .ok (.invokestatic idx, 3)) (hn : As.length = n) (hst : stk = As.reverse ++ st) (hh1 : h' + 1 ≤ hh) (hce : ce + 0 ≤ mT) (hsl : sl + 0 ≤ sT) (hcat : (st.map fun v => v.category).sum ≤ 8) {F : Option (Int32 × Mem)} {K : Int32 → Mem → Option ρ} (h : mm_b2 F K = some res) (ct : ∀ r M', F = some (r, M') → CM Γ.2.1 ω k y c' mL ret h' 0 0 As M (some (.int r)) M') (kk : ∀ r M', K r M' = some res → JJ Γ Q nL ω k M' ce sl (pc + 3) lv (.int r :: st)) : JJ Γ Q nL ω k M ce sl pc lv stk := by
  obtain ⟨r, M2, h3, h4⟩ := mm_b2_spec h
  exact jv_callS C L d hn hst hh1 hce hsl hcat (ct r M2 h3) (kk r M2 h4)
theorem jv_vV (C : Cx Γ cc nL own ω hh mT sT) {idx a ci n mL h' mc ms : Nat} {y : MethodName} {c' : ByteArray} {ret : Option FieldType} {T : u_T} {N : Nat} {As stk : List Value} (L : jv_LV own idx y c' mL ret n) (hc : cl_L[ci]? = some (y.cls, T, N)) (d : decode cc pc = .ok (.invokevirtual idx, 3)) (hn : As.length = n) (hst : stk = As.reverse ++ .ref a :: st) (hh1 : h' + 1 ≤ hh) (hce : ce + mc ≤ mT) (hsl : sl + ms ≤ sT) (hcat : (st.map fun v => v.category).sum ≤ 8) {F : Option (Unit × Mem)} {K : Unit → Mem → Option ρ} (h : ((mm_ck M a ci).bind fun _ => mm_b2 F K) = some res) (ct : ∀ r M', F = some (r, M') → CM Γ.2.1 ω k y c' mL ret h' mc ms (.ref a :: As) M none M') (kk : ∀ r M', K r M' = some res → JJ Γ Q nL ω k M' (ce + mc) (sl + ms) (pc + 3) lv st) : JJ Γ Q nL ω k M ce sl pc lv stk := by
  obtain ⟨u, h1, h2⟩ := Option.bind_eq_some_iff.mp h
  obtain ⟨r, M2, h3, h4⟩ := mm_b2_spec h2
  exact jv_callV C L hc h1 d hn hst hh1 hce hsl hcat (ct r M2 h3) (kk r M2 h4)
theorem jv_sV (C : Cx Γ cc nL own ω hh mT sT) {idx n mL h' mc ms : Nat} {y : MethodName} {c' : ByteArray} {ret : Option FieldType} {As stk : List Value} (L : jv_LS own idx y c' mL ret n) (d : decode cc pc = .ok (.invokestatic idx, 3)) (hn : As.length = n) (hst : stk = As.reverse ++ st) (hh1 : h' + 1 ≤ hh) (hce : ce + mc ≤ mT) (hsl : sl + ms ≤ sT) (hcat : (st.map fun v => v.category).sum ≤ 8) {F : Option (Unit × Mem)} {K : Unit → Mem → Option ρ} (h : mm_b2 F K = some res) (ct : ∀ r M', F = some (r, M') → CM Γ.2.1 ω k y c' mL ret h' mc ms As M none M') (kk : ∀ r M', K r M' = some res → JJ Γ Q nL ω k M' (ce + mc) (sl + ms) (pc + 3) lv st) : JJ Γ Q nL ω k M ce sl pc lv stk := by
  obtain ⟨r, M2, h3, h4⟩ := mm_b2_spec h
  exact jv_callS C L d hn hst hh1 hce hsl hcat (ct r M2 h3) (kk r M2 h4)
theorem jv_iV (C : Cx Γ cc nL own ω hh mT sT) {idx a n mL h' mc ms : Nat} {y : MethodName} {c' : ByteArray} {As stk : List Value} (L : jv_LI own idx y c' mL n) (d : decode cc pc = .ok (.invokespecial idx, 3)) (hn : As.length = n) (hst : stk = As.reverse ++ .ref a :: st) (hh1 : h' + 1 ≤ hh) (hce : ce + mc ≤ mT) (hsl : sl + ms ≤ sT) (hcat : (st.map fun v => v.category).sum ≤ 8) {F : Option (Unit × Mem)} {K : Unit → Mem → Option ρ} (h : mm_b2 F K = some res) (ct : ∀ r M', F = some (r, M') → CM Γ.2.1 ω k y c' mL none h' mc ms (.ref a :: As) M none M') (kk : ∀ r M', K r M' = some res → JJ Γ Q nL ω k M' (ce + mc) (sl + ms) (pc + 3) lv st) : JJ Γ Q nL ω k M ce sl pc lv stk := by
  obtain ⟨r, M2, h3, h4⟩ := mm_b2_spec h
  exact jv_callI C L d hn hst hh1 hce hsl hcat (ct r M2 h3) (kk r M2 h4)
theorem jv_vV0 (C : Cx Γ cc nL own ω hh mT sT) {idx a ci n mL h' : Nat} {y : MethodName} {c' : ByteArray} {ret : Option FieldType} {T : u_T} {N : Nat} {As stk : List Value} (L : jv_LV own idx y c' mL ret n) (hc : cl_L[ci]? = some (y.cls, T, N)) (d : decode cc pc = .ok (.invokevirtual idx, 3)) (hn : As.length = n) (hst : stk = As.reverse ++ .ref a :: st) (hh1 : h' + 1 ≤ hh) (hce : ce + 0 ≤ mT) (hsl : sl + 0 ≤ sT) (hcat : (st.map fun v => v.category).sum ≤ 8) {F : Option (Unit × Mem)} {K : Unit → Mem → Option ρ} (h : ((mm_ck M a ci).bind fun _ => mm_b2 F K) = some res) (ct : ∀ r M', F = some (r, M') → CM Γ.2.1 ω k y c' mL ret h' 0 0 (.ref a :: As) M none M') (kk : ∀ r M', K r M' = some res → JJ Γ Q nL ω k M' ce sl (pc + 3) lv st) : JJ Γ Q nL ω k M ce sl pc lv stk := by
  obtain ⟨u, h1, h2⟩ := Option.bind_eq_some_iff.mp h
  obtain ⟨r, M2, h3, h4⟩ := mm_b2_spec h2
  exact jv_callV C L hc h1 d hn hst hh1 hce hsl hcat (ct r M2 h3) (kk r M2 h4)
theorem jv_sV0 (C : Cx Γ cc nL own ω hh mT sT) {idx n mL h' : Nat} {y : MethodName} {c' : ByteArray} {ret : Option FieldType} {As stk : List Value} (L : jv_LS own idx y c' mL ret n) (d : decode cc pc = .ok (.invokestatic idx, 3)) (hn : As.length = n) (hst : stk = As.reverse ++ st) (hh1 : h' + 1 ≤ hh) (hce : ce + 0 ≤ mT) (hsl : sl + 0 ≤ sT) (hcat : (st.map fun v => v.category).sum ≤ 8) {F : Option (Unit × Mem)} {K : Unit → Mem → Option ρ} (h : mm_b2 F K = some res) (ct : ∀ r M', F = some (r, M') → CM Γ.2.1 ω k y c' mL ret h' 0 0 As M none M') (kk : ∀ r M', K r M' = some res → JJ Γ Q nL ω k M' ce sl (pc + 3) lv st) : JJ Γ Q nL ω k M ce sl pc lv stk := by
  obtain ⟨r, M2, h3, h4⟩ := mm_b2_spec h
  exact jv_callS C L d hn hst hh1 hce hsl hcat (ct r M2 h3) (kk r M2 h4)
theorem jv_iV0 (C : Cx Γ cc nL own ω hh mT sT) {idx a n mL h' : Nat} {y : MethodName} {c' : ByteArray} {As stk : List Value} (L : jv_LI own idx y c' mL n) (d : decode cc pc = .ok (.invokespecial idx, 3)) (hn : As.length = n) (hst : stk = As.reverse ++ .ref a :: st) (hh1 : h' + 1 ≤ hh) (hce : ce + 0 ≤ mT) (hsl : sl + 0 ≤ sT) (hcat : (st.map fun v => v.category).sum ≤ 8) {F : Option (Unit × Mem)} {K : Unit → Mem → Option ρ} (h : mm_b2 F K = some res) (ct : ∀ r M', F = some (r, M') → CM Γ.2.1 ω k y c' mL none h' 0 0 (.ref a :: As) M none M') (kk : ∀ r M', K r M' = some res → JJ Γ Q nL ω k M' ce sl (pc + 3) lv st) : JJ Γ Q nL ω k M ce sl pc lv stk := by
  obtain ⟨r, M2, h3, h4⟩ := mm_b2_spec h
  exact jv_callI C L d hn hst hh1 hce hsl hcat (ct r M2 h3) (kk r M2 h4)
theorem jv_newa0 (C : Cx Γ cc nL own ω hh mT sT) {lim : Nat} {n : Int32} (g1 : Cond.arrayClass .int ∈ gd_L) (hlim : lim * 4 ≤ 536870912) (hce : ce + 1 ≤ mT) (hsl : sl + lim ≤ sT) (d : decode cc pc = .ok (.newarray .int, 2)) {K : Nat → Mem → Option ρ} (h : mm_b2 (mm_nA M lim n (fun N => .inl (0, N, .inl (fun _ => 0)))) K = some res) (kk : ∀ a M, K a M = some res → JJ Γ Q nL ω 0 M (ce + 1) (sl + lim) (pc + 2) lv (.ref a :: st)) : JJ Γ Q nL ω 0 M ce sl pc lv (.int n :: st) := by
  obtain ⟨a, M2, h3, h4⟩ := mm_b2_spec h
  exact jv_newa (at_ := .int) (ty := .int) (t := 0) (a0 := fun N => (N, .inl (fun _ => 0))) (K := fun q => K q.1 q.2) C g1 rfl rfl (fun h => h) (fun _ _ => rfl) rfl hlim hce hsl d (by rw [h3]; exact h4) (fun a M h => kk a M h)
theorem jv_newa1 (C : Cx Γ cc nL own ω hh mT sT) {lim : Nat} {n : Int32} (g1 : Cond.arrayClass .long ∈ gd_L) (hlim : lim * 8 ≤ 536870912) (hce : ce + 1 ≤ mT) (hsl : sl + lim ≤ sT) (d : decode cc pc = .ok (.newarray .long, 2)) {K : Nat → Mem → Option ρ} (h : mm_b2 (mm_nA M lim n (fun N => .inl (1, N, .inr (.inl (fun _ => 0))))) K = some res) (kk : ∀ a M, K a M = some res → JJ Γ Q nL ω 0 M (ce + 1) (sl + lim) (pc + 2) lv (.ref a :: st)) : JJ Γ Q nL ω 0 M ce sl pc lv (.int n :: st) := by
  obtain ⟨a, M2, h3, h4⟩ := mm_b2_spec h
  exact jv_newa (at_ := .long) (ty := .long) (t := 1) (a0 := fun N => (N, .inr (.inl (fun _ => 0)))) (K := fun q => K q.1 q.2) C g1 rfl rfl (fun h => h) (fun _ _ => rfl) rfl hlim hce hsl d (by rw [h3]; exact h4) (fun a M h => kk a M h)
theorem jv_newa2 (C : Cx Γ cc nL own ω hh mT sT) {lim : Nat} {n : Int32} (g1 : Cond.arrayClass .byte ∈ gd_L) (hlim : lim * 1 ≤ 536870912) (hce : ce + 1 ≤ mT) (hsl : sl + lim ≤ sT) (d : decode cc pc = .ok (.newarray .byte, 2)) {K : Nat → Mem → Option ρ} (h : mm_b2 (mm_nA M lim n (fun N => .inl (2, N, .inl (fun _ => 0)))) K = some res) (kk : ∀ a M, K a M = some res → JJ Γ Q nL ω 0 M (ce + 1) (sl + lim) (pc + 2) lv (.ref a :: st)) : JJ Γ Q nL ω 0 M ce sl pc lv (.int n :: st) := by
  obtain ⟨a, M2, h3, h4⟩ := mm_b2_spec h
  exact jv_newa (at_ := .byte) (ty := .byte) (t := 2) (a0 := fun N => (N, .inl (fun _ => 0))) (K := fun q => K q.1 q.2) C g1 rfl rfl (fun h => h) (fun _ _ => rfl) rfl hlim hce hsl d (by rw [h3]; exact h4) (fun a M h => kk a M h)
theorem jv_newa3 (C : Cx Γ cc nL own ω hh mT sT) {lim : Nat} {n : Int32} (g1 : Cond.arrayClass .boolean ∈ gd_L) (hlim : lim * 1 ≤ 536870912) (hce : ce + 1 ≤ mT) (hsl : sl + lim ≤ sT) (d : decode cc pc = .ok (.newarray .boolean, 2)) {K : Nat → Mem → Option ρ} (h : mm_b2 (mm_nA M lim n (fun N => .inl (3, N, .inl (fun _ => 0)))) K = some res) (kk : ∀ a M, K a M = some res → JJ Γ Q nL ω 0 M (ce + 1) (sl + lim) (pc + 2) lv (.ref a :: st)) : JJ Γ Q nL ω 0 M ce sl pc lv (.int n :: st) := by
  obtain ⟨a, M2, h3, h4⟩ := mm_b2_spec h
  exact jv_newa (at_ := .boolean) (ty := .boolean) (t := 3) (a0 := fun N => (N, .inl (fun _ => 0))) (K := fun q => K q.1 q.2) C g1 rfl rfl (fun h => h) (fun _ _ => rfl) rfl hlim hce hsl d (by rw [h3]; exact h4) (fun a M h => kk a M h)
theorem jv_newq2 (C : Cx Γ cc nL own ω hh mT sT) {idx lim : Nat} {n : Int32} (g1 : Cond.classLink own idx "CoinSorter$State" ∈ gd_L) (hlim : lim * 4 ≤ 536870912) (hce : ce + 1 ≤ mT) (hsl : sl + lim ≤ sT) (d : decode cc pc = .ok (.anewarray idx, 3)) {K : Nat → Mem → Option ρ} (h : mm_b2 (mm_nA M lim n (fun N => .inl (4, N, .inr (.inr (.inr (.inr (fun _ => none))))))) K = some res) (kk : ∀ a M, K a M = some res → JJ Γ Q nL ω 0 M (ce + 1) (sl + lim) (pc + 3) lv (.ref a :: st)) : JJ Γ Q nL ω 0 M ce sl pc lv (.int n :: st) := by
  obtain ⟨a, M2, h3, h4⟩ := mm_b2_spec h
  exact jv_newq (K := fun q => K q.1 q.2) C g1 hlim hce hsl d (by rw [h3]; exact h4) (fun a M h => kk a M h)
/-! string constants -/
def st_ck (u : UInt32) : Option Unit := if u.toNat < 6 then some () else none
def st_val (u : UInt32) : Option UInt32 := if u.toNat < 6 then some (u + 100) else none
def st_ln (u : UInt32) : Option Int32 := if 100 ≤ u.toNat ∧ u.toNat < 106 then some (Int32.ofNat (st_len.getD (u.toNat - 100) 0)) else none
def st_by (u : UInt32) (i : Int32) : Option Int32 := if (100 ≤ u.toNat ∧ u.toNat < 106) ∧ ¬ (i < 0 ∨ st_len.getD (u.toNat - 100) 0 ≤ i.toNatClampNeg) then some ((st_byt.getD (u.toNat - 100) []).getD i.toNatClampNeg 0) else none
theorem sh_S {ω : Wd} {u : UInt32} (h : u.toNat ≠ 200) : sh ω (.float u) = .ref (ω.2.1 u.toNat) := if_neg h
theorem sh_rf (ω : Wd) (u : UInt32) : ∃ o, sh ω (.float u) = va_rf o := by
  by_cases h : u.toNat = 200
  · exact ⟨_, if_pos h⟩
  · exact ⟨some _, if_neg h⟩
theorem jv_keep (hbs : wz ω ≤ Γ.s.heap.size ∧ ∀ q, q < wz ω → Γ.s.heap[q]? = ω.1[q]?) : ∀ a : Nat, a < ω.1.size → ¬ mA ω a → Γ.s.heap[a]? = ω.1[a]? := fun a h _ => hbs.2 a h
theorem jv_ldcS (C : Cx Γ cc nL own ω hh mT sT) {idx j : Nat} {tx : String} {u : UInt32} (g : (own, idx, tx, j) ∈ st_L) (hu : u.toNat = j) (hu2 : j ≠ 200) (d : decode cc pc = .ok (.ldc idx, 2)) (kk : JJ Γ Q nL ω k M ce sl (pc + 2) lv (.float u :: st)) : JJ Γ Q nL ω k M ce sl pc lv st := by
  obtain ⟨hx, hb, hml, hown, hts, hKW, hlk, hbs, hR⟩ := C
  intro H locs ls hl hP hz hS
  have h9 := kk H locs ls hl hP hz hS
  rw [List.map_cons, sh_S (by rw [hu]; exact hu2), hu] at h9
  exact va_ldcS hx hb hown (hKW.2.2.2.2.1 _ g) d h9
theorem jv_sload_n (C : Cx Γ cc nL own ω hh mT sT) {q : Fin 4} {i : Nat} {x : UInt32} (d : decode cc pc = .ok (.aload_n q, 1)) (hi : (q : Nat) = i) (j : Nat) (hj : lv[j]? = some (i, .float x)) (kk : JJ Γ Q nL ω k M ce sl (pc + 1) lv (.float x :: st)) : JJ Γ Q nL ω k M ce sl pc lv st := by
  obtain ⟨hx, hb, hml, hown, hts, hKW, hlk, hbs, hR⟩ := C
  intro H locs ls hl hP hz hS
  have h8 := lv_at hl j (shL_at hj)
  have h9 := kk H locs ls hl hP hz hS
  obtain ⟨o, ho⟩ := sh_rf ω x
  rw [List.map_cons, ho] at h9
  dsimp only at h8
  rw [ho] at h8
  cases o with
  | none => exact lv_aload_nN hx hb d hi h8 h9
  | some a => exact lv_aload_n hx hb d hi h8 h9
theorem jv_gSv (C : Cx Γ cc nL own ω hh mT sT) {idx : Nat} {u : UInt32} (g : Cond.fieldLink own idx "java/lang/String" "value" "[B" ∈ gd_L) (d : decode cc pc = .ok (.getfield idx, 3)) {K : UInt32 → Option ρ} (h : (st_val u).bind K = some res) (kk : ∀ v, K v = some res → JJ Γ Q nL ω k M ce sl (pc + 3) lv (.float v :: st)) : JJ Γ Q nL ω k M ce sl pc lv (.float u :: st) := by
  obtain ⟨hx, hb, hml, hown, hts, hKW, hlk, hbs, hR⟩ := C
  intro H locs ls hl hP hz hS
  obtain ⟨v, h1, h2⟩ := Option.bind_eq_some_iff.mp h
  unfold st_val at h1
  split at h1
  · rename_i hu
    cases h1
    have e : (u + 100).toNat = 100 + u.toNat := by
      rw [UInt32.toNat_add]
      show (u.toNat + 100) % 2 ^ 32 = _
      omega
    have h9 := kk _ h2 H locs ls hl hP hz hS
    rw [List.map_cons, sh_S (by omega), e] at h9
    rw [List.map_cons, sh_S (by omega)]
    exact vk_getf hx hb ((hKW.2.2.2.1.kept (jv_keep hbs)).1 u.toNat hu).2.2.1 hS hown (hts _ g) (fun _ h => h) d h9
  · cases h1
theorem jv_gSc (C : Cx Γ cc nL own ω hh mT sT) {idx : Nat} {u : UInt32} (g : Cond.fieldLink own idx "java/lang/String" "coder" "B" ∈ gd_L) (d : decode cc pc = .ok (.getfield idx, 3)) {K : Unit → Option ρ} (h : (st_ck u).bind K = some res) (kk : ∀ v, K v = some res → JJ Γ Q nL ω k M ce sl (pc + 3) lv (.int 0 :: st)) : JJ Γ Q nL ω k M ce sl pc lv (.float u :: st) := by
  obtain ⟨hx, hb, hml, hown, hts, hKW, hlk, hbs, hR⟩ := C
  intro H locs ls hl hP hz hS
  obtain ⟨v, h1, h2⟩ := Option.bind_eq_some_iff.mp h
  unfold st_ck at h1
  split at h1
  · rename_i hu
    cases h1
    have h9 := kk _ h2 H locs ls hl hP hz hS
    rw [List.map_cons, sh_S (by omega)]
    exact vk_getf hx hb ((hKW.2.2.2.1.kept (jv_keep hbs)).1 u.toNat hu).2.1 hS hown (hts _ g) (fun _ h => h) d h9
  · cases h1
theorem jv_gsZ (C : Cx Γ cc nL own ω hh mT sT) {idx : Nat} (g : Cond.fieldLink own idx "java/lang/String" "COMPACT_STRINGS" "Z" ∈ gd_L) (d : decode cc pc = .ok (.getstatic idx, 3)) (kk : JJ Γ Q nL ω k M ce sl (pc + 3) lv (.int 1 :: st)) : JJ Γ Q nL ω k M ce sl pc lv st := by
  obtain ⟨hx, hb, hml, hown, hts, hKW, hlk, hbs, hR⟩ := C
  intro H locs ls hl hP hz hS
  exact va_gets hx hb (va_Z.kept hKW.2.2.2.2.2.2.2.1 (jv_keep hbs)) hS hown (hts _ g) (fun _ h => h) d (kk H locs ls hl hP hz hS)
theorem jv_gsF (C : Cx Γ cc nL own ω hh mT sT) {idx : Nat} (g : Cond.fieldLink own idx "jdk/internal/util/Preconditions" "SIOOBE_FORMATTER" "Ljava/util/function/BiFunction;" ∈ gd_L) (d : decode cc pc = .ok (.getstatic idx, 3)) (kk : JJ Γ Q nL ω k M ce sl (pc + 3) lv (.float 200 :: st)) : JJ Γ Q nL ω k M ce sl pc lv st := by
  obtain ⟨hx, hb, hml, hown, hts, hKW, hlk, hbs, hR⟩ := C
  intro H locs ls hl hP hz hS
  exact va_gets hx hb (va_Z.kept hKW.2.2.2.2.2.2.2.2.1 (jv_keep hbs)) hS hown (hts _ g) (fun _ h => h) d (kk H locs ls hl hP hz hS)
theorem jv_i2c (C : Cx Γ cc nL own ω hh mT sT) {x : Int32} (d : decode cc pc = .ok (.i2c, 1)) (kk : JJ Γ Q nL ω k M ce sl (pc + 1) lv (.int (x.toUInt32 % 65536).toInt32 :: st)) : JJ Γ Q nL ω k M ce sl pc lv (.int x :: st) := by
  obtain ⟨hx, hb, hml, hown, hts, hKW, hlk, hbs, hR⟩ := C
  intro H locs ls hl hP hz hS
  exact lv_i2c hx hb d rfl (kk H locs ls hl hP hz hS)
theorem jv_nret (C : Cx Γ cc nL own ω hh mT sT) {ty : FieldType} (hr : Γ.meth.sig.returnType = some ty) {x : Int32} (hn : narrow ty (.int x) = .int x) {r : Int32} {M' : Mem} (d : decode cc pc = .ok (.ireturn, 1)) (h : some (x, M) = some (r, M')) : JJ Γ (QF Γ ω k ce sl (some (.int r)) M') nL ω k M ce sl pc lv [.int x] := by
  obtain ⟨hx, hb, hml, hown, hts, hKW, hlk, hbs, hR⟩ := C
  intro H locs ls hl hP hz hS
  cases h
  exact W.zret hx hb hr hn (fun t ht hW => ⟨rfl, by rw [ht]; exact hP, by rw [ht]; exact hz, hS.F ht⟩) hS.2.2 d hlk
theorem jv_cret (C : Cx Γ cc nL own ω hh mT sT) (hr : Γ.meth.sig.returnType = some .char) {x : Int32} {r : Int32} {M' : Mem} (d : decode cc pc = .ok (.ireturn, 1)) (h : (if 0 ≤ x ∧ x < 65536 then some (x, M) else none) = some (r, M')) : JJ Γ (QF Γ ω k ce sl (some (.int r)) M') nL ω k M ce sl pc lv [.int x] := by
  split at h
  · rename_i hz
    obtain ⟨j, hj, rfl⟩ := nI_of (x := x) (Int32.not_lt.mpr hz.1)
    have hj2 : j < 65536 := (nI_ltI hj (by decide)).mp (show nI j < nI 65536 from hz.2)
    exact jv_nret C hr (pk_charN hj2).1 d h
  · cases h
theorem jv_tlen (C : Cx Γ cc nL own ω hh mT sT) {u : UInt32} (d : decode cc pc = .ok (.arraylength, 1)) {K : Int32 → Option ρ} (h : (st_ln u).bind K = some res) (kk : ∀ v, K v = some res → JJ Γ Q nL ω k M ce sl (pc + 1) lv (.int v :: st)) : JJ Γ Q nL ω k M ce sl pc lv (.float u :: st) := by
  obtain ⟨hx, hb, hml, hown, hts, hKW, hlk, hbs, hR⟩ := C
  intro H locs ls hl hP hz hS
  obtain ⟨v, h1, h2⟩ := Option.bind_eq_some_iff.mp h
  unfold st_ln at h1
  split at h1
  · rename_i hu
    cases h1
    have h9 := kk _ h2 H locs ls hl hP hz hS
    obtain ⟨cell, q1, q2, q3, q4, q5, q6, q7⟩ := ((hKW.2.2.2.1.kept (jv_keep hbs)).1 (u.toNat - 100) (by omega)).2.2.2.kept hS.2.1
    rw [List.map_cons, sh_S (by omega)]
    dsimp only at q1
    rw [show 100 + (u.toNat - 100) = u.toNat by omega] at q1
    exact W.alen hx hb q1 q2 q5 rfl rfl d h9
  · cases h1
theorem jv_tald (C : Cx Γ cc nL own ω hh mT sT) {u : UInt32} {i : Int32} (d : decode cc pc = .ok (.baload, 1)) {K : Int32 → Option ρ} (h : (st_by u i).bind K = some res) (kk : ∀ v, K v = some res → JJ Γ Q nL ω k M ce sl (pc + 1) lv (.int v :: st)) : JJ Γ Q nL ω k M ce sl pc lv (.int i :: .float u :: st) := by
  obtain ⟨hx, hb, hml, hown, hts, hKW, hlk, hbs, hR⟩ := C
  intro H locs ls hl hP hz hS
  obtain ⟨v, h1, h2⟩ := Option.bind_eq_some_iff.mp h
  unfold st_by at h1
  split at h1
  · rename_i hu
    cases h1
    obtain ⟨hu, hi⟩ := hu
    have h9 := kk _ h2 H locs ls hl hP hz hS
    obtain ⟨cell, q1, q2, q3, q4, q5, q6, q7⟩ := ((hKW.2.2.2.1.kept (jv_keep hbs)).1 (u.toNat - 100) (by omega)).2.2.2.kept hS.2.1
    rw [List.map_cons, List.map_cons, sh_S (by omega)]
    dsimp only at q1
    rw [show 100 + (u.toNat - 100) = u.toNat by omega] at q1
    have hi2 : i.toNatClampNeg < st_len.getD (u.toNat - 100) 0 := Nat.not_le.mp fun q => hi (Or.inr q)
    exact W.bald hx hb q1 q2 q3 (fun q => q.elim (fun z => hi (Or.inl z)) (fun z => by omega)) (q6 _ hi2) rfl rfl d h9
  · cases h1
theorem jv_wI0 (C : Cx Γ cc nL own ω hh mT sT) {idx n mL h' : Nat} {u : UInt32} {y : MethodName} {c' : ByteArray} {ret : Option FieldType} {As stk : List Value} (L : jv_LV own idx y c' mL ret n) (hyc : y.cls = "java/lang/String") (d : decode cc pc = .ok (.invokevirtual idx, 3)) (hn : As.length = n) (hst : stk = As.reverse ++ .float u :: st) (hh1 : h' + 1 ≤ hh) (hce : ce + 0 ≤ mT) (hsl : sl + 0 ≤ sT) (hcat : (st.map fun v => v.category).sum ≤ 8) {F : Option (Int32 × Mem)} {K : Int32 → Mem → Option ρ} (h : ((st_ck u).bind fun _ => mm_b2 F K) = some res) (ct : ∀ r M', F = some (r, M') → CM Γ.2.1 ω k y c' mL ret h' 0 0 (.float u :: As) M (some (.int r)) M') (kk : ∀ r M', K r M' = some res → JJ Γ Q nL ω k M' ce sl (pc + 3) lv (.int r :: st)) : JJ Γ Q nL ω k M ce sl pc lv stk := by
  obtain ⟨uu, h1, h2⟩ := Option.bind_eq_some_iff.mp h
  obtain ⟨r, M2, h3, h4⟩ := mm_b2_spec h2
  have ct := ct r M2 h3
  have kk := kk r M2 h4
  unfold st_ck at h1
  split at h1
  · rename_i hu
    obtain ⟨hx, hb, hml, hown, hts, hKW, hlk, hbs, hR⟩ := C
    obtain ⟨⟨lk, li, lc, ld, lm⟩, l1, l2⟩ := L
    intro H locs ls hl hP hz hS
    have hcat' : ((st.map (sh ω)).map fun v => v.category).sum ≤ 8 := by
      rw [List.map_map]; rw [show (fun v : Value => v.category) ∘ sh ω = (fun v : Value => v.category) from funext (sh_cat ω)]; exact hcat
    have hrm : (rm_ h' 0 0).frames + 1 ≤ Γ.2.2.2.1.frames ∧ 8 + (mL + 11) + (rm_ h' 0 0).locals ≤ Γ.2.2.2.1.locals := by
      obtain ⟨r1, -, -, r4⟩ := hR; exact ⟨Nat.le_trans hh1 r1, by show 8 + (mL + 11) + 100 * h' ≤ _; omega⟩
    have hsu : sh ω (.float u) = .ref (ω.2.1 u.toNat) := sh_S (by omega)
    have hrc : ∃ cell : Cell, H[ω.2.1 u.toNat]? = some cell ∧ cell.vm.isStatics = false ∧ Γ.s.vm.findClass y.cls = some cell.cls := by
      rw [hyc]; exact vk_recv (hKW.2.2.2.1.kept (jv_keep hbs)) hu hS
    have hpre : PreV Γ.s H y.cls (ω.2.1 u.toNat) (PC ω k M (.float u :: As)) (As.map (sh ω)) := ⟨PC.blind, hrc, fun U hU hW => by
      have h7 := jv_pre (av := .float u :: As) hKW hbs hP hz hS hU hW
      rw [List.map_cons, hsu] at h7
      exact h7⟩
    have hstk : stk.map (sh ω) = (As.map (sh ω)).reverse ++ .ref (ω.2.1 u.toNat) :: st.map (sh ω) := by rw [hst, ← hsu]; simp
    have hce' : ce + 0 ≤ Γ.2.2.2.1.cells ∧ sl + 0 ≤ Γ.2.2.2.1.slots := ⟨Nat.le_trans hce hR.2.1, Nat.le_trans hsl hR.2.2.1⟩
    have hfin : ∀ (H1 : Heap) (locs1 : List Loc), va_P ω.2.2.2 cl_L (toW ω M2) H1 → H1.size = wz ω + M2.length + k → va_S (mA ω) Γ.s.heap H1 locs1 → W Γ.1 Γ.2.1 Γ.2.2.1 Γ.2.2.2.1 Γ.s Γ.m Γ.args Γ.below Γ.meth Γ.c H1 locs1 (ce + 0) (sl + 0) Q (F0 Γ.m (pc + 3) ls (((some (Value.int r)).map (sh ω)).toList ++ st.map (sh ω))) := fun H1 locs1 hP1 hz1 hS1 => kk H1 locs1 ls hl hP1 hz1 hS1
    rcases lk with lk | ⟨host, lk⟩
    · exact jv_back (va_runV (As := As.map (sh ω)) (rest := st.map (sh ω)) (b := ω.2.1 u.toNat) (C := y.cls) (Ts := gd_L) ⟨hx, hb, hml, hown, hts⟩ ct ⟨callB_of n hts (gd_in lc) rfl rfl rfl (hts _ li) (hts _ lk) ld hrm, hts _ l1, hts _ l2⟩ hpre rfl (by rw [List.length_map]; exact hn) hl.1 hstk (lv_room hcat') d hce') hS hfin
    · exact jv_back (va_runVN (As := As.map (sh ω)) (rest := st.map (sh ω)) (b := ω.2.1 u.toNat) (C := y.cls) (Ts := gd_L) ⟨hx, hb, hml, hown, hts⟩ ct ⟨va_cnB n hts (gd_in lc) rfl rfl rfl (hKW.2.1 _ lk) (hts _ li) ld hrm, hts _ l1, hts _ l2⟩ hpre rfl (by rw [List.length_map]; exact hn) hl.1 hstk (lv_room hcat') d hce') hS hfin
  · cases h1
end JV2
theorem mt_ofF {l : Launch} {y : MethodName} {ws ws' : List Cond} {rm : Room} {Pc : Array Value → State → Prop} {Qc : Array Value → State → Outcome → State → Prop} {mc ms : Nat} {free : Addr → Prop} {cc : ByteArray} {maxL : Nat} {ret : Option FieldType}
    (hy : plainFor y = true) (hw : ws = Cond.code y cc maxL ret :: ws')
    (body : ∀ p e s m args below meth c s₁, BodyLoose p l y (headSpec ws rm) cc maxL ret e s m args below meth c s₁ → c.maxLocals = maxL → Pc args s →
      W p l e (headSpec ws rm).room s m args below meth c s.heap [] 0 0 (MQ below Qc args s mc ms free) (entryFrame m args maxL)) : Met l y ws rm Pc Qc mc ms free := by
  refine MetFree.of_bodySF (code := cc) (maxLocals := maxL) (ret := ret) hy ?_ ?_
  · intro args s m h hn
    obtain ⟨meth, c, h1, h2, h3, h4, h5, h6, -, -⟩ := Cond.code_spec hn (atoms_spec (ws := ws) h _ (by rw [hw]; exact List.mem_cons_self))
    exact ⟨meth, c, h1, h2, h3, h4, h5, h6⟩
  · intro p e s m args below meth c s₁ B hml hP _
    have hh0 : s₁.heap = s.heap := by rw [B.state]; rfl
    obtain ⟨t, a1, o, b1, b2, b3⟩ := body p e s m args below meth c s₁ B hml hP s₁ hh0 (Stand.of_body B)
    exact ⟨t, o, a1, b1, b2, ⟨b3.1, b3.2⟩⟩
theorem CM.ofF {l : Launch} {ω : Wd} {k : Nat} {y : MethodName} {cc : ByteArray} {mL : Nat} {ret : Option FieldType} {h mc ms : Nat} {av : List Value} {M M' : Mem} {r : Option Value} (hy : plainFor y = true) (hlen : (lg_sl av).length ≤ mL)
    (body : ∀ Γ : Gm, Γ.2.1 = l → Cx Γ cc mL y.cls ω h mc ms → Γ.meth.sig.returnType = ret → Γ.meth.name = y.name → JJ Γ (QF Γ ω k mc ms r M') mL ω k M 0 0 0 (lv_args 0 av) []) : CM l ω k y cc mL ret h mc ms av M r M' := by
  refine mt_ofF (cc := cc) (maxL := mL) (ret := ret) hy rfl ?_
  intro p e s m args below meth c s₁ B hml hv
  obtain ⟨rfl, hKW, hP, hz, hb0⟩ := hv
  have hts := atoms_spec (ws := Cond.code y cc mL ret :: gd_L) B.pre
  have hC : Cx (p, l, e, rm_ h mc ms, s, m, (av.map (sh ω)).toArray, below, meth, c) cc mL y.cls ω h mc ms := ⟨B.exec, B.bytes, hml, findClass_of_methodNamed B.named, fun w hw => hts w (List.mem_cons_of_mem _ hw), hKW, B.notSynchronized, ⟨by show wz ω ≤ s.heap.size; omega, hb0⟩, ⟨Nat.le_refl _, Nat.le_refl _, Nat.le_refl _, Nat.le_refl _⟩⟩
  have hb1 := body (p, l, e, rm_ h mc ms, s, m, (av.map (sh ω)).toArray, below, meth, c) rfl hC B.returns (name_of_methodNamed B.named B.method).1
  have hsl : (lg_sl (av.map (sh ω))).length = (lg_sl av).length := by
    clear hb1 hC hts hP hz hb0 hKW B hml body hlen
    induction av with
    | nil => rfl
    | cons v vs ih =>
      simp only [lg_sl, List.map_cons, List.flatMap_cons, List.length_append, sh_cat] at ih ⊢
      rw [ih]
      congr 1
      split <;> rfl
  have hl := lv_entry (av.map (sh ω)) (n := mL) (by rw [hsl]; exact hlen)
  rw [shL_args] at hl
  rw [lg_entry_eq]
  exact hb1 s.heap [] _ hl hP hz va_S.rf
