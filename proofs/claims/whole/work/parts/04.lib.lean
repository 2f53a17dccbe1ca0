/-! THE SMALL HEAP: a list of cells, addresses counted from the law's start; its judgement JJ; a row for each instruction -/
abbrev mE : Type := (Nat × vp_A) ⊕ (Nat × List Value)
abbrev Mem : Type := List mE
/-- the world: the heap at the law's start, the addresses of the string constants, the array classes, the classes -/
abbrev Wd : Type := Heap × (Nat → Nat) × (Nat → ClassId) × va_G
def wz (ω : Wd) : Nat := ω.1.size
def sh (ω : Wd) : Value → Value
  | .ref a => .ref (wz ω + a)
  | .float j => if j.toNat = 200 then va_rf (if ω.2.1 200 = 0 then none else some (ω.2.1 200 - 1)) else .ref (ω.2.1 j.toNat)
  | v => v
def shA (ω : Wd) : vp_A → vp_A
  | (n, .inr (.inr (.inr (.inr f)))) => (n, .inr (.inr (.inr (.inr (fun j => (f j).map (fun a => wz ω + a))))))
  | a => a
def shE (ω : Wd) : mE → va_E
  | .inl (t, a) => .inl (ω.2.2.1 t, shA ω a)
  | .inr (c, fs) => .inr (c, fs.map (sh ω))
def toW (ω : Wd) (M : Mem) : va_W := M.mapIdx (fun i e => (wz ω + i, shE ω e))
def shL (ω : Wd) (lv : List (Nat × Value)) : List (Nat × Value) := lv.map (fun q => (q.1, sh ω q.2))
abbrev ty_L (ω : Wd) : List (ClassId × FieldType) := [(ω.2.2.1 0, .int), (ω.2.2.1 1, .long), (ω.2.2.1 2, .byte), (ω.2.2.1 3, .boolean), (ω.2.2.1 4, .object "CoinSorter$State")]
abbrev mA (ω : Wd) : Nat → Prop := fun q => wz ω ≤ q
/-- the words of the configuration's text, as string constants: lengths, bytes, where they are loaded; behind them the messages -/
def st_len : List Nat := [4, 4, 3, 4, 4, 6]
def st_byt : List (List Int32) := [[116, 121, 112, 101], [102, 97, 107, 101], [98, 105, 110], [103, 97, 116, 101], [108, 111, 111, 112], [109, 97, 114, 103, 105, 110]]
def st_L : List (String × Nat × String × Nat) := [("CoinSorter$Parser", 41, "type", 0), ("CoinSorter$Parser", 57, "fake", 1), ("CoinSorter$Parser", 62, "bin", 2), ("CoinSorter$Parser", 68, "gate", 3), ("CoinSorter$Parser", 80, "loop", 4), ("CoinSorter$Parser", 85, "margin", 5), ("CoinSorterModel", 129, "type", 0), ("CoinSorterModel", 139, "fake", 1), ("CoinSorterModel", 141, "bin", 2), ("CoinSorterModel", 143, "gate", 3), ("CoinSorterModel", 149, "loop", 4), ("CoinSorterModel", 151, "margin", 5), ("CoinSorter", 145, "no such type", 6), ("CoinSorter", 156, "measurement out of range", 7), ("CoinSorter", 327, "no such bag", 8), ("CoinSorter", 329, "counted out of range", 9), ("CoinSorter", 333, "audited before", 10)]
def sfv (ω : Wd) : Value := va_rf (if ω.2.1 200 = 0 then none else some (ω.2.1 200 - 1))
def KW (ω : Wd) (U : State) : Prop := va_K ω.2.2.2 cl_L (ty_L ω) U ∧ (∀ w ∈ ns_L, va_Nw w U) ∧ va_AO "CoinSorter$State" U ∧ vk_S 6 st_len st_byt ω.2.1 (fun i => ω.2.1 (100 + i)) (mA ω) U ω.1 ∧ (∀ q ∈ st_L, vk_R q.1 q.2.1 q.2.2.1 (ω.2.1 q.2.2.2) U) ∧ vx_Zq Bundle.tN "UNASSIGNED_STACK" Bundle.steD (mA ω) U ω.1 ∧ vx_Zq Bundle.tN "SUPPRESSED_SENTINEL" Bundle.listD (mA ω) U ω.1 ∧ va_Z "java/lang/String" "COMPACT_STRINGS" "Z" (.int 1) (mA ω) U ω.1 ∧ va_Z "jdk/internal/util/Preconditions" "SIOOBE_FORMATTER" "Ljava/util/function/BiFunction;" (sfv ω) (mA ω) U ω.1 ∧ va_Nc "java/lang/IllegalArgumentException" "java/lang/IndexOutOfBoundsException" U ∧ va_Nc "java/lang/IllegalStateException" "java/lang/IndexOutOfBoundsException" U ∧ va_Nc "java/lang/IllegalStateException" "java/lang/IllegalArgumentException" U
theorem sh_cat (ω : Wd) (v : Value) : (sh ω v).category = v.category := by
  cases v with
  | float j =>
    show (if j.toNat = 200 then va_rf (if ω.2.1 200 = 0 then none else some (ω.2.1 200 - 1)) else .ref (ω.2.1 j.toNat)).category = 1
    split
    · split <;> rfl
    · rfl
  | _ => rfl
theorem toW_at {ω : Wd} {M : Mem} {a : Nat} {e : mE} (h : M[a]? = some e) : (toW ω M)[a]? = some (wz ω + a, shE ω e) := by
  simp [toW, List.getElem?_mapIdx, h]
theorem toW_inv {ω : Wd} {M : Mem} {a : Nat} {q : Nat × va_E} (h : (toW ω M)[a]? = some q) : ∃ e, M[a]? = some e ∧ q = (wz ω + a, shE ω e) := by
  simp only [toW, List.getElem?_mapIdx, Option.map_eq_some_iff] at h
  obtain ⟨e, h1, h2⟩ := h
  exact ⟨e, h1, h2.symm⟩
theorem toW_set {ω : Wd} {M : Mem} {a : Nat} {e : mE} : (toW ω M).set a (wz ω + a, shE ω e) = toW ω (M.set a e) := by
  apply List.ext_getElem?
  intro i
  by_cases h : a = i
  · subst h
    simp only [toW, List.getElem?_set, List.getElem?_mapIdx, List.length_mapIdx]
    by_cases h2 : a < M.length
    · simp [h2]
    · simp [h2]
  · simp [toW, List.getElem?_set, List.getElem?_mapIdx, h]
theorem toW_app {ω : Wd} {M : Mem} {e : mE} : toW ω (M ++ [e]) = toW ω M ++ [(wz ω + M.length, shE ω e)] := by
  simp [toW, List.mapIdx_append]
theorem toW_D {ω : Wd} {M : Mem} : va_D (mA ω) (toW ω M) := by
  refine ⟨fun i j p q hi hj hpq => ?_, fun k q hk => ?_⟩
  · obtain ⟨e1, -, rfl⟩ := toW_inv hi
    obtain ⟨e2, -, rfl⟩ := toW_inv hj
    have : wz ω + i = wz ω + j := hpq
    omega
  · obtain ⟨e1, -, rfl⟩ := toW_inv hk
    exact Nat.le_add_right _ _
theorem shL_at {ω : Wd} {lv : List (Nat × Value)} {j : Nat} {q : Nat × Value} (h : lv[j]? = some q) : (shL ω lv)[j]? = some (q.1, sh ω q.2) := by
  simp [shL, h]
theorem shL_filter1 {ω : Wd} {i : Nat} {v : Value} {lv : List (Nat × Value)} : (i, sh ω v) :: (shL ω lv).filter (fun q => !(q.1 == i) && !(q.1 + 1 == i && q.2.category == 2)) = shL ω ((i, v) :: lv.filter (fun q => !(q.1 == i) && !(q.1 + 1 == i && q.2.category == 2))) := by
  simp only [shL, List.map_cons, List.filter_map]
  congr 2
  apply List.filter_congr
  intro q _
  simp [Function.comp, sh_cat]
theorem shL_filter2 {ω : Wd} {i : Nat} {v : Value} {lv : List (Nat × Value)} : (i, sh ω v) :: (shL ω lv).filter (fun q => !(q.1 == i) && (!(q.1 == i + 1) && !(q.1 + 1 == i && q.2.category == 2))) = shL ω ((i, v) :: lv.filter (fun q => !(q.1 == i) && (!(q.1 == i + 1) && !(q.1 + 1 == i && q.2.category == 2)))) := by
  simp only [shL, List.map_cons, List.filter_map]
  congr 2
  apply List.filter_congr
  intro q _
  simp [Function.comp, sh_cat]
theorem shL_pick {ω : Wd} {lv : List (Nat × Value)} {ks : List Nat} : lv_pick (shL ω lv) ks = shL ω (lv_pick lv ks) := by
  simp only [lv_pick, shL, List.map_filterMap]
  congr 1
  funext k
  simp
theorem shL_args {ω : Wd} : ∀ (vs : List Value) (i : Nat), lv_args i (vs.map (sh ω)) = shL ω (lv_args i vs)
  | [], _ => rfl
  | v :: vs, i => by
    simp only [List.map_cons, lv_args, shL, sh_cat]
    congr 1
    exact shL_args vs _
theorem KW.nest {s U : State} (hW : s.WarmedH U.vm) (h : ∀ w ∈ ns_L, va_Nw w s) : ∀ w ∈ ns_L, va_Nw w U := fun w hw => by
  have h1 := h w hw
  have h2 := (List.mem_filter.mp hw).2
  cases w <;> first | exact va_Nw.warmF hW h1 | exact va_Nw.warmM hW h1 | exact va_Nw.warmC hW h1 | exact va_Nw.warmD hW h1 | (simp [jv_isNest] at h2)
theorem KW.warm {ω : Wd} {s U : State} (h : KW ω s) (hW : s.WarmedH U.vm) : KW ω U := by
  obtain ⟨h1, h2, h3, h4, h5, h6, h7, h8, h9, n1, n2, n3⟩ := h
  exact ⟨h1.moved hW.alike, KW.nest hW h2, h3.moved hW.alike, h4.moved hW.alike, fun q hq => (h5 q hq).warm hW, h6.moved hW.alike, h7.moved hW.alike, h8.moved hW.alike, h9.moved hW.alike, n1.moved hW.alike, n2.moved hW.alike, n3.moved hW.alike⟩
theorem KW.calling {ω : Wd} {U : State} {g : JFrame} {mk : MethodId} {a : Array Value} (h : KW ω U) : KW ω (U.calling g mk a) := by
  obtain ⟨h1, h2, h3, h4, h5, h6, h7, h8, h9, n1, n2, n3⟩ := h
  have hA : U.vm.Alike (U.calling g mk a).vm := Vm.Alike.refl U.vm
  refine ⟨h1.moved hA, fun w hw => ?_, h3.moved hA, h4.moved hA, fun q hq => vk_R.same (u := U) rfl (h5 q hq), h6.moved hA, h7.moved hA, h8.moved hA, h9.moved hA, n1.moved hA, n2.moved hA, n3.moved hA⟩
  have h1 := h2 w hw
  have h2 := (List.mem_filter.mp hw).2
  refine va_Nw.same (u := U) (U := U.calling g mk a) ?_ rfl h1
  cases w <;> first | rfl | (simp [jv_isNest] at h2)
/-! reading and writing the small heap -/
def mm_gV (M : Mem) (a ci j : Nat) : Option Value := match M[a]? with
  | some (.inr (c, fs)) => if c = ci then fs[j]? else none
  | _ => none
def mm_gI (M : Mem) (a ci j : Nat) : Option Int32 := match mm_gV M a ci j with
  | some (.int v) => some v
  | _ => none
def mm_gL (M : Mem) (a ci j : Nat) : Option Int64 := match mm_gV M a ci j with
  | some (.long v) => some v
  | _ => none
def mm_gR (M : Mem) (a ci j : Nat) : Option Nat := match mm_gV M a ci j with
  | some (.ref v) => some v
  | _ => none
def mm_ck (M : Mem) (a ci : Nat) : Option Unit := match M[a]? with
  | some (.inr (c, _)) => if c = ci then some () else none
  | _ => none
def mm_pV (M : Mem) (a ci j : Nat) (v : Value) : Option Mem := match M[a]? with
  | some (.inr (c, fs)) => if c = ci ∧ j < fs.length then some (M.set a (.inr (c, fs.set j v))) else none
  | _ => none
def mm_pZ (M : Mem) (a ci j : Nat) (v : Int32) : Option Mem := if v = 0 ∨ v = 1 then mm_pV M a ci j (.int v) else none
def mm_aN (M : Mem) (a : Nat) : Option Int32 := match M[a]? with
  | some (.inl (t, n, _)) => if t < 5 then some (Int32.ofNat n) else none
  | _ => none
def mm_aI (M : Mem) (a t : Nat) (i : Int32) : Option Int32 := match M[a]? with
  | some (.inl (t', n, .inl f)) => if t' = t ∧ ¬ (i < 0 ∨ n ≤ i.toNatClampNeg) then some (f i.toNatClampNeg) else none
  | _ => none
def mm_aL (M : Mem) (a : Nat) (i : Int32) : Option Int64 := match M[a]? with
  | some (.inl (t', n, .inr (.inl f))) => if t' = 1 ∧ ¬ (i < 0 ∨ n ≤ i.toNatClampNeg) then some (f i.toNatClampNeg) else none
  | _ => none
def mm_aR (M : Mem) (a : Nat) (i : Int32) : Option Nat := match M[a]? with
  | some (.inl (t', n, .inr (.inr (.inr (.inr f))))) => if t' = 4 ∧ ¬ (i < 0 ∨ n ≤ i.toNatClampNeg) then f i.toNatClampNeg else none
  | _ => none
def mm_sI (M : Mem) (a t : Nat) (i x : Int32) : Option Mem := match M[a]? with
  | some (.inl (t', n, .inl f)) => if t' = t ∧ ¬ (i < 0 ∨ n ≤ i.toNatClampNeg) then some (M.set a (.inl (t', n, .inl (upd f i.toNatClampNeg x)))) else none
  | _ => none
def mm_sL (M : Mem) (a : Nat) (i : Int32) (x : Int64) : Option Mem := match M[a]? with
  | some (.inl (t', n, .inr (.inl f))) => if t' = 1 ∧ ¬ (i < 0 ∨ n ≤ i.toNatClampNeg) then some (M.set a (.inl (t', n, .inr (.inl (vp_updL f i.toNatClampNeg x))))) else none
  | _ => none
def mm_sR (M : Mem) (a : Nat) (i : Int32) (v : Nat) : Option Mem := match M[a]? with
  | some (.inl (t', n, .inr (.inr (.inr (.inr f))))) => if t' = 4 ∧ ¬ (i < 0 ∨ n ≤ i.toNatClampNeg) then (mm_ck M v 7).map (fun _ => M.set a (.inl (t', n, .inr (.inr (.inr (.inr (va_up f i.toNatClampNeg (some v)))))))) else none
  | _ => none
def mm_cp (M : Mem) (a0 : Nat) (sp : Int32) (a : Nat) (dp n : Int32) : Option Mem := match M[a0]?, M[a]? with
  | some (.inl (t0, n0, .inl f)), some (.inl (t1, n1, .inl g)) => if t0 = 0 ∧ t1 = 0 ∧ ¬ sp < 0 ∧ ¬ dp < 0 ∧ ¬ n < 0 ∧ sp.toNatClampNeg + n.toNatClampNeg ≤ n0 ∧ dp.toNatClampNeg + n.toNatClampNeg ≤ n1 then some (M.set a (.inl (t1, n1, .inl (va_cpy f g sp.toNatClampNeg dp.toNatClampNeg n.toNatClampNeg)))) else none
  | _, _ => none
def mm_dI (x y : Int32) : Option Int32 := if y = 0 then none else some (x / y)
def mm_rI (x y : Int32) : Option Int32 := if y = 0 then none else some (x - x / y * y)
def mm_dL (x y : Int64) : Option Int64 := if y = 0 then none else some (x / y)
def mm_rL (x y : Int64) : Option Int64 := if y = 0 then none else some (x - x / y * y)
def mm_nA (M : Mem) (lim : Nat) (n : Int32) (e : Nat → mE) : Option (Nat × Mem) := if n < 0 ∨ lim < n.toNatClampNeg then none else some (M.length, M ++ [e n.toNatClampNeg])
theorem mm_gV_spec {M : Mem} {a ci j : Nat} {v : Value} (h : mm_gV M a ci j = some v) : ∃ fs, M[a]? = some (.inr (ci, fs)) ∧ fs[j]? = some v := by
  unfold mm_gV at h
  split at h
  · rename_i c fs heq
    split at h
    · rename_i hc; subst hc; exact ⟨fs, heq, h⟩
    · cases h
  · cases h
theorem mm_gI_spec {M : Mem} {a ci j : Nat} {v : Int32} (h : mm_gI M a ci j = some v) : mm_gV M a ci j = some (.int v) := by
  unfold mm_gI at h
  split at h
  · rename_i x heq; cases h; exact heq
  · cases h
theorem mm_gL_spec {M : Mem} {a ci j : Nat} {v : Int64} (h : mm_gL M a ci j = some v) : mm_gV M a ci j = some (.long v) := by
  unfold mm_gL at h
  split at h
  · rename_i x heq; cases h; exact heq
  · cases h
theorem mm_gR_spec {M : Mem} {a ci j : Nat} {v : Nat} (h : mm_gR M a ci j = some v) : mm_gV M a ci j = some (.ref v) := by
  unfold mm_gR at h
  split at h
  · rename_i x heq; cases h; exact heq
  · cases h
theorem mm_ck_spec {M : Mem} {a ci : Nat} {u : Unit} (h : mm_ck M a ci = some u) : ∃ fs, M[a]? = some (.inr (ci, fs)) := by
  unfold mm_ck at h
  split at h
  · rename_i c fs heq
    split at h
    · rename_i hc; subst hc; exact ⟨fs, heq⟩
    · cases h
  · cases h
theorem mm_pV_spec {M M' : Mem} {a ci j : Nat} {v : Value} (h : mm_pV M a ci j v = some M') : ∃ fs, M[a]? = some (.inr (ci, fs)) ∧ j < fs.length ∧ M' = M.set a (.inr (ci, fs.set j v)) := by
  unfold mm_pV at h
  split at h
  · rename_i c fs heq
    split at h
    · rename_i hc; obtain ⟨rfl, hj⟩ := hc; cases h; exact ⟨fs, heq, hj, rfl⟩
    · cases h
  · cases h
theorem mm_aN_spec {M : Mem} {a : Nat} {v : Int32} (h : mm_aN M a = some v) : ∃ t n f, M[a]? = some (.inl (t, n, f)) ∧ t < 5 ∧ Int32.ofNat n = v := by
  unfold mm_aN at h
  split at h
  · rename_i t n f heq
    split at h
    · rename_i ht; cases h; exact ⟨t, n, f, heq, ht, rfl⟩
    · cases h
  · cases h
theorem mm_aI_spec {M : Mem} {a t : Nat} {i v : Int32} (h : mm_aI M a t i = some v) : ∃ n f, M[a]? = some (.inl (t, n, .inl f)) ∧ vp_in i n ∧ f i.toNatClampNeg = v := by
  unfold mm_aI at h
  split at h
  · rename_i t' n f heq
    split at h
    · rename_i hc; obtain ⟨rfl, hi⟩ := hc; cases h; exact ⟨n, f, heq, hi, rfl⟩
    · cases h
  · cases h
theorem mm_aL_spec {M : Mem} {a : Nat} {i : Int32} {v : Int64} (h : mm_aL M a i = some v) : ∃ n f, M[a]? = some (.inl (1, n, .inr (.inl f))) ∧ vp_in i n ∧ f i.toNatClampNeg = v := by
  unfold mm_aL at h
  split at h
  · rename_i t' n f heq
    split at h
    · rename_i hc; obtain ⟨rfl, hi⟩ := hc; cases h; exact ⟨n, f, heq, hi, rfl⟩
    · cases h
  · cases h
theorem mm_aR_spec {M : Mem} {a : Nat} {i : Int32} {v : Nat} (h : mm_aR M a i = some v) : ∃ n f, M[a]? = some (.inl (4, n, .inr (.inr (.inr (.inr f))))) ∧ vp_in i n ∧ f i.toNatClampNeg = some v := by
  unfold mm_aR at h
  split at h
  · rename_i t' n f heq
    split at h
    · rename_i hc; obtain ⟨rfl, hi⟩ := hc; exact ⟨n, f, heq, hi, h⟩
    · cases h
  · cases h
theorem mm_sI_spec {M M' : Mem} {a t : Nat} {i x : Int32} (h : mm_sI M a t i x = some M') : ∃ n f, M[a]? = some (.inl (t, n, .inl f)) ∧ vp_in i n ∧ M' = M.set a (.inl (t, n, .inl (upd f i.toNatClampNeg x))) := by
  unfold mm_sI at h
  split at h
  · rename_i t' n f heq
    split at h
    · rename_i hc; obtain ⟨rfl, hi⟩ := hc; cases h; exact ⟨n, f, heq, hi, rfl⟩
    · cases h
  · cases h
theorem mm_sL_spec {M M' : Mem} {a : Nat} {i : Int32} {x : Int64} (h : mm_sL M a i x = some M') : ∃ n f, M[a]? = some (.inl (1, n, .inr (.inl f))) ∧ vp_in i n ∧ M' = M.set a (.inl (1, n, .inr (.inl (vp_updL f i.toNatClampNeg x)))) := by
  unfold mm_sL at h
  split at h
  · rename_i t' n f heq
    split at h
    · rename_i hc; obtain ⟨rfl, hi⟩ := hc; cases h; exact ⟨n, f, heq, hi, rfl⟩
    · cases h
  · cases h
theorem mm_sR_spec {M M' : Mem} {a : Nat} {i : Int32} {v : Nat} (h : mm_sR M a i v = some M') : ∃ n f fs, M[a]? = some (.inl (4, n, .inr (.inr (.inr (.inr f))))) ∧ vp_in i n ∧ M[v]? = some (.inr (7, fs)) ∧ M' = M.set a (.inl (4, n, .inr (.inr (.inr (.inr (va_up f i.toNatClampNeg (some v))))))) := by
  unfold mm_sR at h
  split at h
  · rename_i t' n f heq
    split at h
    · rename_i hc; obtain ⟨rfl, hi⟩ := hc
      obtain ⟨u, h1, h2⟩ := Option.map_eq_some_iff.mp h
      obtain ⟨fs, h3⟩ := mm_ck_spec h1
      exact ⟨n, f, fs, heq, hi, h3, h2.symm⟩
    · cases h
  · cases h
theorem mm_cp_spec {M M' : Mem} {a0 a : Nat} {sp dp n : Int32} (h : mm_cp M a0 sp a dp n = some M') : ∃ n0 f n1 g, M[a0]? = some (.inl (0, n0, .inl f)) ∧ M[a]? = some (.inl (0, n1, .inl g)) ∧ ¬ sp < 0 ∧ ¬ dp < 0 ∧ ¬ n < 0 ∧ sp.toNatClampNeg + n.toNatClampNeg ≤ n0 ∧ dp.toNatClampNeg + n.toNatClampNeg ≤ n1 ∧ M' = M.set a (.inl (0, n1, .inl (va_cpy f g sp.toNatClampNeg dp.toNatClampNeg n.toNatClampNeg))) := by
  unfold mm_cp at h
  split at h
  · rename_i t0 n0 f t1 n1 g h1 h2
    split at h
    · rename_i hc; obtain ⟨rfl, rfl, c1, c2, c3, c4, c5⟩ := hc; cases h; exact ⟨n0, f, n1, g, h1, h2, c1, c2, c3, c4, c5, rfl⟩
    · cases h
  · cases h
/-! the judgement -/
abbrev Gm : Type := Program × Launch × Env × Room × State × MethodId × Array Value × List Frame × Method × Code
abbrev Gm.s (Γ : Gm) : State := Γ.2.2.2.2.1
abbrev Gm.m (Γ : Gm) : MethodId := Γ.2.2.2.2.2.1
abbrev Gm.args (Γ : Gm) : Array Value := Γ.2.2.2.2.2.2.1
abbrev Gm.below (Γ : Gm) : List Frame := Γ.2.2.2.2.2.2.2.1
abbrev Gm.meth (Γ : Gm) : Method := Γ.2.2.2.2.2.2.2.2.1
abbrev Gm.c (Γ : Gm) : Code := Γ.2.2.2.2.2.2.2.2.2
def WW (Γ : Gm) (H : Heap) (locs : List Loc) (ce sl : Nat) (Q : State → Prop) (g : JFrame) : Prop := W Γ.1 Γ.2.1 Γ.2.2.1 Γ.2.2.2.1 Γ.s Γ.m Γ.args Γ.below Γ.meth Γ.c H locs ce sl Q g
def JJ (Γ : Gm) (Q : State → Prop) (nL : Nat) (ω : Wd) (k : Nat) (M : Mem) (ce sl pc : Nat) (lv : List (Nat × Value)) (st : List Value) : Prop :=
  ∀ (H : Heap) (locs : List Loc) (ls : Array Slot), lv_has ls nL (shL ω lv) → va_P ω.2.2.2 cl_L (toW ω M) H → H.size = wz ω + M.length + k → va_S (mA ω) Γ.s.heap H locs → W Γ.1 Γ.2.1 Γ.2.2.1 Γ.2.2.2.1 Γ.s Γ.m Γ.args Γ.below Γ.meth Γ.c H locs ce sl Q (F0 Γ.m pc ls (st.map (sh ω)))
def rm_ (h mc ms : Nat) : Room := { frames := h, cells := mc, slots := ms, locals := 100 * h }
/-- what stands at every instruction of a method -/
def Cx (Γ : Gm) (cc : ByteArray) (nL : Nat) (own : String) (ω : Wd) (h mT sT : Nat) : Prop :=
  Γ.1.tables.exec = Jvm.exec ∧ Γ.c.code = cc ∧ Γ.c.maxLocals = nL ∧ Γ.s.vm.findClass own = some Γ.m.cls ∧ (∀ w ∈ gd_L, w.before Γ.args Γ.s = true) ∧ KW ω Γ.s ∧ Γ.meth.locks = false ∧ (wz ω ≤ Γ.s.heap.size ∧ ∀ q, q < wz ω → Γ.s.heap[q]? = ω.1[q]?) ∧ (h ≤ Γ.2.2.2.1.frames ∧ mT ≤ Γ.2.2.2.1.cells ∧ sT ≤ Γ.2.2.2.1.slots ∧ 100 * h ≤ Γ.2.2.2.1.locals)
section JV
variable {Γ : Gm} {Q : State → Prop} {nL k : Nat} {ω : Wd} {M : Mem} {ce sl pc : Nat} {lv : List (Nat × Value)} {st : List Value} {cc : ByteArray} {own : String} {hh mT sT : Nat} {ρ : Type} {res : ρ}
theorem jv_sub (ks : List Nat) {lv' : List (Nat × Value)} (hl : lv_pick lv ks = lv') (kk : JJ Γ Q nL ω k M ce sl pc lv' st) : JJ Γ Q nL ω k M ce sl pc lv st := by
  intro H locs ls h hP hz hS
  exact kk H locs ls (lv_sub h ks (by rw [shL_pick, hl])) hP hz hS
theorem jv_no {A : Prop} (h : (none : Option ρ) = some res) : A := by cases h
theorem jv_iconst (C : Cx Γ cc nL own ω hh mT sT) {n : Int} {v : Int32} (d : decode cc pc = .ok (.iconst n, 1)) (hv : Int32.ofInt n = v) (kk : JJ Γ Q nL ω k M ce sl (pc + 1) lv (.int v :: st)) : JJ Γ Q nL ω k M ce sl pc lv st := by
  obtain ⟨hx, hb, hml, hown, hts, hKW, hlk, hbs, hR⟩ := C
  intro H locs ls hl hP hz hS
  exact lv_iconst hx hb d hv (kk H locs ls hl hP hz hS)
theorem jv_bipush (C : Cx Γ cc nL own ω hh mT sT) {n : Int} {v : Int32} (d : decode cc pc = .ok (.bipush n, 2)) (hv : (Int8.ofInt n).toInt32 = v) (kk : JJ Γ Q nL ω k M ce sl (pc + 2) lv (.int v :: st)) : JJ Γ Q nL ω k M ce sl pc lv st := by
  obtain ⟨hx, hb, hml, hown, hts, hKW, hlk, hbs, hR⟩ := C
  intro H locs ls hl hP hz hS
  exact lv_bipush hx hb d hv (kk H locs ls hl hP hz hS)
theorem jv_sipush (C : Cx Γ cc nL own ω hh mT sT) {n : Int} {v : Int32} (d : decode cc pc = .ok (.sipush n, 3)) (hv : (Int16.ofInt n).toInt32 = v) (kk : JJ Γ Q nL ω k M ce sl (pc + 3) lv (.int v :: st)) : JJ Γ Q nL ω k M ce sl pc lv st := by
  obtain ⟨hx, hb, hml, hown, hts, hKW, hlk, hbs, hR⟩ := C
  intro H locs ls hl hP hz hS
  exact lv_sipush hx hb d hv (kk H locs ls hl hP hz hS)
theorem jv_lconst (C : Cx Γ cc nL own ω hh mT sT) {n : Fin 2} {v : Int64} (d : decode cc pc = .ok (.lconst n, 1)) (hv : Int64.ofNat (n : Nat) = v) (kk : JJ Γ Q nL ω k M ce sl (pc + 1) lv (.long v :: st)) : JJ Γ Q nL ω k M ce sl pc lv st := by
  obtain ⟨hx, hb, hml, hown, hts, hKW, hlk, hbs, hR⟩ := C
  intro H locs ls hl hP hz hS
  exact lv_lconst hx hb d hv (kk H locs ls hl hP hz hS)
theorem jv_ldc (C : Cx Γ cc nL own ω hh mT sT) {index : Nat} {v : Int32} (g : Cond.constant own index v ∈ gd_L) (d : decode cc pc = .ok (.ldc index, 2)) (kk : JJ Γ Q nL ω k M ce sl (pc + 2) lv (.int v :: st)) : JJ Γ Q nL ω k M ce sl pc lv st := by
  obtain ⟨hx, hb, hml, hown, hts, hKW, hlk, hbs, hR⟩ := C
  intro H locs ls hl hP hz hS
  exact lv_ldc hx hb hown (hts _ g) d (kk H locs ls hl hP hz hS)
theorem jv_ldcw (C : Cx Γ cc nL own ω hh mT sT) {index : Nat} {v : Int32} (g : Cond.constant own index v ∈ gd_L) (d : decode cc pc = .ok (.ldc_w index, 3)) (kk : JJ Γ Q nL ω k M ce sl (pc + 3) lv (.int v :: st)) : JJ Γ Q nL ω k M ce sl pc lv st := by
  obtain ⟨hx, hb, hml, hown, hts, hKW, hlk, hbs, hR⟩ := C
  intro H locs ls hl hP hz hS
  exact lv_ldcw hx hb hown (hts _ g) d (kk H locs ls hl hP hz hS)
theorem jv_ldc2 (C : Cx Γ cc nL own ω hh mT sT) {index : Nat} {v : Int64} (g : Cond.constantLong own index v ∈ gd_L) (d : decode cc pc = .ok (.ldc2_w index, 3)) (kk : JJ Γ Q nL ω k M ce sl (pc + 3) lv (.long v :: st)) : JJ Γ Q nL ω k M ce sl pc lv st := by
  obtain ⟨hx, hb, hml, hown, hts, hKW, hlk, hbs, hR⟩ := C
  intro H locs ls hl hP hz hS
  exact lv_ldc2 hx hb hown (hts _ g) d (kk H locs ls hl hP hz hS)
theorem jv_iload_n (C : Cx Γ cc nL own ω hh mT sT) {q : Fin 4} {i : Nat} {x : Int32} (d : decode cc pc = .ok (.iload_n q, 1)) (hi : (q : Nat) = i) (j : Nat) (hj : lv[j]? = some (i, .int x)) (kk : JJ Γ Q nL ω k M ce sl (pc + 1) lv (.int x :: st)) : JJ Γ Q nL ω k M ce sl pc lv st := by
  obtain ⟨hx, hb, hml, hown, hts, hKW, hlk, hbs, hR⟩ := C
  intro H locs ls hl hP hz hS
  exact lv_iload_n hx hb d hi (lv_at hl j (shL_at hj)) (kk H locs ls hl hP hz hS)
theorem jv_iload (C : Cx Γ cc nL own ω hh mT sT) {i : Nat} {x : Int32} (d : decode cc pc = .ok (.iload i, 2)) (j : Nat) (hj : lv[j]? = some (i, .int x)) (kk : JJ Γ Q nL ω k M ce sl (pc + 2) lv (.int x :: st)) : JJ Γ Q nL ω k M ce sl pc lv st := by
  obtain ⟨hx, hb, hml, hown, hts, hKW, hlk, hbs, hR⟩ := C
  intro H locs ls hl hP hz hS
  exact lv_iload hx hb d (lv_at hl j (shL_at hj)) (kk H locs ls hl hP hz hS)
theorem jv_istore_n (C : Cx Γ cc nL own ω hh mT sT) {q : Fin 4} {i : Nat} {x : Int32} {lv' : List (Nat × Value)} (d : decode cc pc = .ok (.istore_n q, 1)) (hi : (q : Nat) = i) (hn : i < nL) (hf : (i, Value.int x) :: lv.filter (fun q => !(q.1 == i) && !(q.1 + 1 == i && q.2.category == 2)) = lv') (kk : JJ Γ Q nL ω k M ce sl (pc + 1) lv' st) : JJ Γ Q nL ω k M ce sl pc lv (.int x :: st) := by
  obtain ⟨hx, hb, hml, hown, hts, hKW, hlk, hbs, hR⟩ := C
  intro H locs ls hl hP hz hS
  exact lv_istore_n hx hb d hi hl hn ((shL_filter1 (v := .int x)).trans (congrArg (shL ω) hf)) (fun ls hl => kk H locs ls hl hP hz hS)
theorem jv_istore (C : Cx Γ cc nL own ω hh mT sT) {i : Nat} {x : Int32} {lv' : List (Nat × Value)} (d : decode cc pc = .ok (.istore i, 2)) (hn : i < nL) (hf : (i, Value.int x) :: lv.filter (fun q => !(q.1 == i) && !(q.1 + 1 == i && q.2.category == 2)) = lv') (kk : JJ Γ Q nL ω k M ce sl (pc + 2) lv' st) : JJ Γ Q nL ω k M ce sl pc lv (.int x :: st) := by
  obtain ⟨hx, hb, hml, hown, hts, hKW, hlk, hbs, hR⟩ := C
  intro H locs ls hl hP hz hS
  exact lv_istore hx hb d hl hn ((shL_filter1 (v := .int x)).trans (congrArg (shL ω) hf)) (fun ls hl => kk H locs ls hl hP hz hS)
theorem jv_lload_n (C : Cx Γ cc nL own ω hh mT sT) {q : Fin 4} {i : Nat} {x : Int64} (d : decode cc pc = .ok (.lload_n q, 1)) (hi : (q : Nat) = i) (j : Nat) (hj : lv[j]? = some (i, .long x)) (kk : JJ Γ Q nL ω k M ce sl (pc + 1) lv (.long x :: st)) : JJ Γ Q nL ω k M ce sl pc lv st := by
  obtain ⟨hx, hb, hml, hown, hts, hKW, hlk, hbs, hR⟩ := C
  intro H locs ls hl hP hz hS
  exact lv_lload_n hx hb d hi (lv_at hl j (shL_at hj)) (kk H locs ls hl hP hz hS)
theorem jv_lload (C : Cx Γ cc nL own ω hh mT sT) {i : Nat} {x : Int64} (d : decode cc pc = .ok (.lload i, 2)) (j : Nat) (hj : lv[j]? = some (i, .long x)) (kk : JJ Γ Q nL ω k M ce sl (pc + 2) lv (.long x :: st)) : JJ Γ Q nL ω k M ce sl pc lv st := by
  obtain ⟨hx, hb, hml, hown, hts, hKW, hlk, hbs, hR⟩ := C
  intro H locs ls hl hP hz hS
  exact lv_lload hx hb d (lv_at hl j (shL_at hj)) (kk H locs ls hl hP hz hS)
theorem jv_lstore_n (C : Cx Γ cc nL own ω hh mT sT) {q : Fin 4} {i : Nat} {x : Int64} {lv' : List (Nat × Value)} (d : decode cc pc = .ok (.lstore_n q, 1)) (hi : (q : Nat) = i) (hn : i + 1 < nL) (hf : (i, Value.long x) :: lv.filter (fun q => !(q.1 == i) && (!(q.1 == i + 1) && !(q.1 + 1 == i && q.2.category == 2))) = lv') (kk : JJ Γ Q nL ω k M ce sl (pc + 1) lv' st) : JJ Γ Q nL ω k M ce sl pc lv (.long x :: st) := by
  obtain ⟨hx, hb, hml, hown, hts, hKW, hlk, hbs, hR⟩ := C
  intro H locs ls hl hP hz hS
  exact lv_lstore_n hx hb d hi hl hn ((shL_filter2 (v := .long x)).trans (congrArg (shL ω) hf)) (fun ls hl => kk H locs ls hl hP hz hS)
theorem jv_lstore (C : Cx Γ cc nL own ω hh mT sT) {i : Nat} {x : Int64} {lv' : List (Nat × Value)} (d : decode cc pc = .ok (.lstore i, 2)) (hn : i + 1 < nL) (hf : (i, Value.long x) :: lv.filter (fun q => !(q.1 == i) && (!(q.1 == i + 1) && !(q.1 + 1 == i && q.2.category == 2))) = lv') (kk : JJ Γ Q nL ω k M ce sl (pc + 2) lv' st) : JJ Γ Q nL ω k M ce sl pc lv (.long x :: st) := by
  obtain ⟨hx, hb, hml, hown, hts, hKW, hlk, hbs, hR⟩ := C
  intro H locs ls hl hP hz hS
  exact lv_lstore hx hb d hl hn ((shL_filter2 (v := .long x)).trans (congrArg (shL ω) hf)) (fun ls hl => kk H locs ls hl hP hz hS)
theorem jv_aload_n (C : Cx Γ cc nL own ω hh mT sT) {q : Fin 4} {i : Nat} {x : Nat} (d : decode cc pc = .ok (.aload_n q, 1)) (hi : (q : Nat) = i) (j : Nat) (hj : lv[j]? = some (i, .ref x)) (kk : JJ Γ Q nL ω k M ce sl (pc + 1) lv (.ref x :: st)) : JJ Γ Q nL ω k M ce sl pc lv st := by
  obtain ⟨hx, hb, hml, hown, hts, hKW, hlk, hbs, hR⟩ := C
  intro H locs ls hl hP hz hS
  exact lv_aload_n hx hb d hi (lv_at hl j (shL_at hj)) (kk H locs ls hl hP hz hS)
theorem jv_aload (C : Cx Γ cc nL own ω hh mT sT) {i : Nat} {x : Nat} (d : decode cc pc = .ok (.aload i, 2)) (j : Nat) (hj : lv[j]? = some (i, .ref x)) (kk : JJ Γ Q nL ω k M ce sl (pc + 2) lv (.ref x :: st)) : JJ Γ Q nL ω k M ce sl pc lv st := by
  obtain ⟨hx, hb, hml, hown, hts, hKW, hlk, hbs, hR⟩ := C
  intro H locs ls hl hP hz hS
  exact lv_aload hx hb d (lv_at hl j (shL_at hj)) (kk H locs ls hl hP hz hS)
theorem jv_astore_n (C : Cx Γ cc nL own ω hh mT sT) {q : Fin 4} {i : Nat} {x : Nat} {lv' : List (Nat × Value)} (d : decode cc pc = .ok (.astore_n q, 1)) (hi : (q : Nat) = i) (hn : i < nL) (hf : (i, Value.ref x) :: lv.filter (fun q => !(q.1 == i) && !(q.1 + 1 == i && q.2.category == 2)) = lv') (kk : JJ Γ Q nL ω k M ce sl (pc + 1) lv' st) : JJ Γ Q nL ω k M ce sl pc lv (.ref x :: st) := by
  obtain ⟨hx, hb, hml, hown, hts, hKW, hlk, hbs, hR⟩ := C
  intro H locs ls hl hP hz hS
  exact lv_astore_n hx hb d hi hl hn ((shL_filter1 (v := .ref x)).trans (congrArg (shL ω) hf)) (fun ls hl => kk H locs ls hl hP hz hS)
theorem jv_astore (C : Cx Γ cc nL own ω hh mT sT) {i : Nat} {x : Nat} {lv' : List (Nat × Value)} (d : decode cc pc = .ok (.astore i, 2)) (hn : i < nL) (hf : (i, Value.ref x) :: lv.filter (fun q => !(q.1 == i) && !(q.1 + 1 == i && q.2.category == 2)) = lv') (kk : JJ Γ Q nL ω k M ce sl (pc + 2) lv' st) : JJ Γ Q nL ω k M ce sl pc lv (.ref x :: st) := by
  obtain ⟨hx, hb, hml, hown, hts, hKW, hlk, hbs, hR⟩ := C
  intro H locs ls hl hP hz hS
  exact lv_astore hx hb d hl hn ((shL_filter1 (v := .ref x)).trans (congrArg (shL ω) hf)) (fun ls hl => kk H locs ls hl hP hz hS)
theorem jv_iinc (C : Cx Γ cc nL own ω hh mT sT) {i : Nat} {n : Int} {x v : Int32} {lv' : List (Nat × Value)} (d : decode cc pc = .ok (.iinc i n, 3)) (j : Nat) (hj : lv[j]? = some (i, .int x)) (hv : Int32.ofInt n = v) (hn : i < nL) (hf : (i, Value.int (x + v)) :: lv.filter (fun q => !(q.1 == i) && !(q.1 + 1 == i && q.2.category == 2)) = lv') (kk : JJ Γ Q nL ω k M ce sl (pc + 3) lv' st) : JJ Γ Q nL ω k M ce sl pc lv st := by
  obtain ⟨hx, hb, hml, hown, hts, hKW, hlk, hbs, hR⟩ := C
  intro H locs ls hl hP hz hS
  subst hv; exact lv_iinc hx hb d hl (shL_at hj) rfl hn ((shL_filter1 (v := .int (x + Int32.ofInt n))).trans (congrArg (shL ω) hf)) (fun ls hl => kk H locs ls hl hP hz hS)
theorem jv_iadd (C : Cx Γ cc nL own ω hh mT sT) {x y : Int32} (d : decode cc pc = .ok (.iadd, 1)) (kk : JJ Γ Q nL ω k M ce sl (pc + 1) lv (.int (x + y) :: st)) : JJ Γ Q nL ω k M ce sl pc lv (.int y :: .int x :: st) := by
  obtain ⟨hx, hb, hml, hown, hts, hKW, hlk, hbs, hR⟩ := C
  intro H locs ls hl hP hz hS
  exact lv_iadd hx hb d (kk H locs ls hl hP hz hS)
theorem jv_isub (C : Cx Γ cc nL own ω hh mT sT) {x y : Int32} (d : decode cc pc = .ok (.isub, 1)) (kk : JJ Γ Q nL ω k M ce sl (pc + 1) lv (.int (x - y) :: st)) : JJ Γ Q nL ω k M ce sl pc lv (.int y :: .int x :: st) := by
  obtain ⟨hx, hb, hml, hown, hts, hKW, hlk, hbs, hR⟩ := C
  intro H locs ls hl hP hz hS
  exact lv_isub hx hb d (kk H locs ls hl hP hz hS)
theorem jv_imul (C : Cx Γ cc nL own ω hh mT sT) {x y : Int32} (d : decode cc pc = .ok (.imul, 1)) (kk : JJ Γ Q nL ω k M ce sl (pc + 1) lv (.int (x * y) :: st)) : JJ Γ Q nL ω k M ce sl pc lv (.int y :: .int x :: st) := by
  obtain ⟨hx, hb, hml, hown, hts, hKW, hlk, hbs, hR⟩ := C
  intro H locs ls hl hP hz hS
  exact lv_imul hx hb d (kk H locs ls hl hP hz hS)
theorem jv_iand (C : Cx Γ cc nL own ω hh mT sT) {x y : Int32} (d : decode cc pc = .ok (.iand, 1)) (kk : JJ Γ Q nL ω k M ce sl (pc + 1) lv (.int (x &&& y) :: st)) : JJ Γ Q nL ω k M ce sl pc lv (.int y :: .int x :: st) := by
  obtain ⟨hx, hb, hml, hown, hts, hKW, hlk, hbs, hR⟩ := C
  intro H locs ls hl hP hz hS
  exact lv_iand hx hb d (kk H locs ls hl hP hz hS)
theorem jv_ior (C : Cx Γ cc nL own ω hh mT sT) {x y : Int32} (d : decode cc pc = .ok (.ior, 1)) (kk : JJ Γ Q nL ω k M ce sl (pc + 1) lv (.int (x ||| y) :: st)) : JJ Γ Q nL ω k M ce sl pc lv (.int y :: .int x :: st) := by
  obtain ⟨hx, hb, hml, hown, hts, hKW, hlk, hbs, hR⟩ := C
  intro H locs ls hl hP hz hS
  exact lv_ior hx hb d (kk H locs ls hl hP hz hS)
theorem jv_ixor (C : Cx Γ cc nL own ω hh mT sT) {x y : Int32} (d : decode cc pc = .ok (.ixor, 1)) (kk : JJ Γ Q nL ω k M ce sl (pc + 1) lv (.int (x ^^^ y) :: st)) : JJ Γ Q nL ω k M ce sl pc lv (.int y :: .int x :: st) := by
  obtain ⟨hx, hb, hml, hown, hts, hKW, hlk, hbs, hR⟩ := C
  intro H locs ls hl hP hz hS
  exact lv_ixor hx hb d (kk H locs ls hl hP hz hS)
theorem jv_ishl (C : Cx Γ cc nL own ω hh mT sT) {x y : Int32} (d : decode cc pc = .ok (.ishl, 1)) (kk : JJ Γ Q nL ω k M ce sl (pc + 1) lv (.int (x <<< (y &&& 31)) :: st)) : JJ Γ Q nL ω k M ce sl pc lv (.int y :: .int x :: st) := by
  obtain ⟨hx, hb, hml, hown, hts, hKW, hlk, hbs, hR⟩ := C
  intro H locs ls hl hP hz hS
  exact lv_ishl hx hb d (kk H locs ls hl hP hz hS)
theorem jv_ishr (C : Cx Γ cc nL own ω hh mT sT) {x y : Int32} (d : decode cc pc = .ok (.ishr, 1)) (kk : JJ Γ Q nL ω k M ce sl (pc + 1) lv (.int (x >>> (y &&& 31)) :: st)) : JJ Γ Q nL ω k M ce sl pc lv (.int y :: .int x :: st) := by
  obtain ⟨hx, hb, hml, hown, hts, hKW, hlk, hbs, hR⟩ := C
  intro H locs ls hl hP hz hS
  exact lv_ishr hx hb d (kk H locs ls hl hP hz hS)
theorem jv_ladd (C : Cx Γ cc nL own ω hh mT sT) {x y : Int64} (d : decode cc pc = .ok (.ladd, 1)) (kk : JJ Γ Q nL ω k M ce sl (pc + 1) lv (.long (x + y) :: st)) : JJ Γ Q nL ω k M ce sl pc lv (.long y :: .long x :: st) := by
  obtain ⟨hx, hb, hml, hown, hts, hKW, hlk, hbs, hR⟩ := C
  intro H locs ls hl hP hz hS
  exact lv_ladd hx hb d (kk H locs ls hl hP hz hS)
theorem jv_lsub (C : Cx Γ cc nL own ω hh mT sT) {x y : Int64} (d : decode cc pc = .ok (.lsub, 1)) (kk : JJ Γ Q nL ω k M ce sl (pc + 1) lv (.long (x - y) :: st)) : JJ Γ Q nL ω k M ce sl pc lv (.long y :: .long x :: st) := by
  obtain ⟨hx, hb, hml, hown, hts, hKW, hlk, hbs, hR⟩ := C
  intro H locs ls hl hP hz hS
  exact lv_lsub hx hb d (kk H locs ls hl hP hz hS)
theorem jv_lmul (C : Cx Γ cc nL own ω hh mT sT) {x y : Int64} (d : decode cc pc = .ok (.lmul, 1)) (kk : JJ Γ Q nL ω k M ce sl (pc + 1) lv (.long (x * y) :: st)) : JJ Γ Q nL ω k M ce sl pc lv (.long y :: .long x :: st) := by
  obtain ⟨hx, hb, hml, hown, hts, hKW, hlk, hbs, hR⟩ := C
  intro H locs ls hl hP hz hS
  exact lv_lmul hx hb d (kk H locs ls hl hP hz hS)
theorem jv_ineg (C : Cx Γ cc nL own ω hh mT sT) {x : Int32} (d : decode cc pc = .ok (.ineg, 1)) (kk : JJ Γ Q nL ω k M ce sl (pc + 1) lv (.int (0 - x) :: st)) : JJ Γ Q nL ω k M ce sl pc lv (.int x :: st) := by
  obtain ⟨hx, hb, hml, hown, hts, hKW, hlk, hbs, hR⟩ := C
  intro H locs ls hl hP hz hS
  exact lv_ineg hx hb d (kk H locs ls hl hP hz hS)
theorem jv_i2l (C : Cx Γ cc nL own ω hh mT sT) {x : Int32} (d : decode cc pc = .ok (.i2l, 1)) (kk : JJ Γ Q nL ω k M ce sl (pc + 1) lv (.long x.toInt64 :: st)) : JJ Γ Q nL ω k M ce sl pc lv (.int x :: st) := by
  obtain ⟨hx, hb, hml, hown, hts, hKW, hlk, hbs, hR⟩ := C
  intro H locs ls hl hP hz hS
  exact lv_i2l hx hb d rfl (kk H locs ls hl hP hz hS)
theorem jv_l2i (C : Cx Γ cc nL own ω hh mT sT) {x : Int64} (d : decode cc pc = .ok (.l2i, 1)) (kk : JJ Γ Q nL ω k M ce sl (pc + 1) lv (.int x.toInt32 :: st)) : JJ Γ Q nL ω k M ce sl pc lv (.long x :: st) := by
  obtain ⟨hx, hb, hml, hown, hts, hKW, hlk, hbs, hR⟩ := C
  intro H locs ls hl hP hz hS
  exact lv_l2i hx hb d rfl (kk H locs ls hl hP hz hS)
theorem jv_i2b (C : Cx Γ cc nL own ω hh mT sT) {x : Int32} (d : decode cc pc = .ok (.i2b, 1)) (kk : JJ Γ Q nL ω k M ce sl (pc + 1) lv (.int x.toInt8.toInt32 :: st)) : JJ Γ Q nL ω k M ce sl pc lv (.int x :: st) := by
  obtain ⟨hx, hb, hml, hown, hts, hKW, hlk, hbs, hR⟩ := C
  intro H locs ls hl hP hz hS
  exact lv_i2b hx hb d rfl (kk H locs ls hl hP hz hS)
theorem jv_lcmp (C : Cx Γ cc nL own ω hh mT sT) {x y : Int64} (d : decode cc pc = .ok (.lcmp, 1)) (kk : JJ Γ Q nL ω k M ce sl (pc + 1) lv (.int (lg_cmp x y) :: st)) : JJ Γ Q nL ω k M ce sl pc lv (.long y :: .long x :: st) := by
  obtain ⟨hx, hb, hml, hown, hts, hKW, hlk, hbs, hR⟩ := C
  intro H locs ls hl hP hz hS
  exact W.lcmp hx hb d (kk H locs ls hl hP hz hS)
theorem jv_dup (C : Cx Γ cc nL own ω hh mT sT) {v : Value} (d : decode cc pc = .ok (.dup, 1)) (hv : v.category = 1) (kk : JJ Γ Q nL ω k M ce sl (pc + 1) lv (v :: v :: st)) : JJ Γ Q nL ω k M ce sl pc lv (v :: st) := by
  obtain ⟨hx, hb, hml, hown, hts, hKW, hlk, hbs, hR⟩ := C
  intro H locs ls hl hP hz hS
  exact lv_dup hx hb d (by rw [sh_cat]; exact hv) (kk H locs ls hl hP hz hS)
theorem jv_pop (C : Cx Γ cc nL own ω hh mT sT) {v : Value} (d : decode cc pc = .ok (.pop, 1)) (hv : v.category = 1) (kk : JJ Γ Q nL ω k M ce sl (pc + 1) lv st) : JJ Γ Q nL ω k M ce sl pc lv (v :: st) := by
  obtain ⟨hx, hb, hml, hown, hts, hKW, hlk, hbs, hR⟩ := C
  intro H locs ls hl hP hz hS
  exact lv_pop hx hb d (by rw [sh_cat]; exact hv) (kk H locs ls hl hP hz hS)
theorem jv_dup2 (C : Cx Γ cc nL own ω hh mT sT) {v u : Value} (d : decode cc pc = .ok (.dup2, 1)) (hv : v.category = 1) (hu : u.category = 1) (kk : JJ Γ Q nL ω k M ce sl (pc + 1) lv (v :: u :: v :: u :: st)) : JJ Γ Q nL ω k M ce sl pc lv (v :: u :: st) := by
  obtain ⟨hx, hb, hml, hown, hts, hKW, hlk, hbs, hR⟩ := C
  intro H locs ls hl hP hz hS
  exact lv_dup2_11 hx hb d (by rw [sh_cat]; exact hv) (by rw [sh_cat]; exact hu) (kk H locs ls hl hP hz hS)
theorem jv_dup_x1 (C : Cx Γ cc nL own ω hh mT sT) {v u : Value} (d : decode cc pc = .ok (.dup_x1, 1)) (hv : v.category = 1) (hu : u.category = 1) (kk : JJ Γ Q nL ω k M ce sl (pc + 1) lv (v :: u :: v :: st)) : JJ Γ Q nL ω k M ce sl pc lv (v :: u :: st) := by
  obtain ⟨hx, hb, hml, hown, hts, hKW, hlk, hbs, hR⟩ := C
  intro H locs ls hl hP hz hS
  exact lv_dup_x1 hx hb d (by rw [sh_cat]; exact hv) (by rw [sh_cat]; exact hu) (kk H locs ls hl hP hz hS)
theorem jv_goto (C : Cx Γ cc nL own ω hh mT sT) {off : Int} {tgt : Nat} (d : decode cc pc = .ok (.goto off, 3)) (ht : (pc : Int) + off = (tgt : Int)) (kk : JJ Γ Q nL ω k M ce sl tgt lv st) : JJ Γ Q nL ω k M ce sl pc lv st := by
  obtain ⟨hx, hb, -⟩ := C
  intro H locs ls hl hP hz hS
  exact lv_goto hx hb d ht (kk H locs ls hl hP hz hS)
theorem jv_idiv (C : Cx Γ cc nL own ω hh mT sT) {x y : Int32} (d : decode cc pc = .ok (.idiv, 1)) {K : Int32 → Option ρ} (h : (mm_dI x y).bind K = some res) (kk : ∀ v, K v = some res → JJ Γ Q nL ω k M ce sl (pc + 1) lv (.int v :: st)) : JJ Γ Q nL ω k M ce sl pc lv (.int y :: .int x :: st) := by
  obtain ⟨hx, hb, -⟩ := C
  intro H locs ls hl hP hz hS
  obtain ⟨v, h1, h2⟩ := Option.bind_eq_some_iff.mp h
  unfold mm_dI at h1
  split at h1
  · cases h1
  · rename_i hne; cases h1; exact lv_idiv hx hb d hne (kk _ h2 H locs ls hl hP hz hS)
theorem jv_irem (C : Cx Γ cc nL own ω hh mT sT) {x y : Int32} (d : decode cc pc = .ok (.irem, 1)) {K : Int32 → Option ρ} (h : (mm_rI x y).bind K = some res) (kk : ∀ v, K v = some res → JJ Γ Q nL ω k M ce sl (pc + 1) lv (.int v :: st)) : JJ Γ Q nL ω k M ce sl pc lv (.int y :: .int x :: st) := by
  obtain ⟨hx, hb, -⟩ := C
  intro H locs ls hl hP hz hS
  obtain ⟨v, h1, h2⟩ := Option.bind_eq_some_iff.mp h
  unfold mm_rI at h1
  split at h1
  · cases h1
  · rename_i hne; cases h1; exact lv_irem hx hb d hne (kk _ h2 H locs ls hl hP hz hS)
theorem jv_ldiv (C : Cx Γ cc nL own ω hh mT sT) {x y : Int64} (d : decode cc pc = .ok (.ldiv, 1)) {K : Int64 → Option ρ} (h : (mm_dL x y).bind K = some res) (kk : ∀ v, K v = some res → JJ Γ Q nL ω k M ce sl (pc + 1) lv (.long v :: st)) : JJ Γ Q nL ω k M ce sl pc lv (.long y :: .long x :: st) := by
  obtain ⟨hx, hb, -⟩ := C
  intro H locs ls hl hP hz hS
  obtain ⟨v, h1, h2⟩ := Option.bind_eq_some_iff.mp h
  unfold mm_dL at h1
  split at h1
  · cases h1
  · rename_i hne; cases h1; exact lv_ldiv hx hb d hne (kk _ h2 H locs ls hl hP hz hS)
theorem jv_lrem (C : Cx Γ cc nL own ω hh mT sT) {x y : Int64} (d : decode cc pc = .ok (.lrem, 1)) {K : Int64 → Option ρ} (h : (mm_rL x y).bind K = some res) (kk : ∀ v, K v = some res → JJ Γ Q nL ω k M ce sl (pc + 1) lv (.long v :: st)) : JJ Γ Q nL ω k M ce sl pc lv (.long y :: .long x :: st) := by
  obtain ⟨hx, hb, -⟩ := C
  intro H locs ls hl hP hz hS
  obtain ⟨v, h1, h2⟩ := Option.bind_eq_some_iff.mp h
  unfold mm_rL at h1
  split at h1
  · cases h1
  · rename_i hne; cases h1; exact lv_lrem hx hb d hne (kk _ h2 H locs ls hl hP hz hS)
theorem jv_if_eq (C : Cx Γ cc nL own ω hh mT sT) {x : Int32} {off : Int} {tgt : Nat} (d : decode cc pc = .ok (.ifCond .eq off, 3)) (ht : (pc : Int) + off = (tgt : Int)) {A B : Option ρ} {inst : Decidable (x = 0)} (h : @ite (Option ρ) (x = 0) inst A B = some res) (k1 : A = some res → JJ Γ Q nL ω k M ce sl tgt lv st) (k2 : B = some res → JJ Γ Q nL ω k M ce sl (pc + 3) lv st) : JJ Γ Q nL ω k M ce sl pc lv (.int x :: st) := by
  obtain ⟨hx, hb, -⟩ := C
  intro H locs ls hl hP hz hS
  exact lv_if_eq hx hb d ht (fun c => k1 (by rw [if_pos c] at h; exact h) H locs ls hl hP hz hS) (fun c => k2 (by rw [if_neg c] at h; exact h) H locs ls hl hP hz hS)
theorem jv_icmp_eq (C : Cx Γ cc nL own ω hh mT sT) {x y : Int32} {off : Int} {tgt : Nat} (d : decode cc pc = .ok (.if_icmp .eq off, 3)) (ht : (pc : Int) + off = (tgt : Int)) {A B : Option ρ} {inst : Decidable (x = y)} (h : @ite (Option ρ) (x = y) inst A B = some res) (k1 : A = some res → JJ Γ Q nL ω k M ce sl tgt lv st) (k2 : B = some res → JJ Γ Q nL ω k M ce sl (pc + 3) lv st) : JJ Γ Q nL ω k M ce sl pc lv (.int y :: .int x :: st) := by
  obtain ⟨hx, hb, -⟩ := C
  intro H locs ls hl hP hz hS
  exact lv_icmp_eq hx hb d ht (fun c => k1 (by rw [if_pos c] at h; exact h) H locs ls hl hP hz hS) (fun c => k2 (by rw [if_neg c] at h; exact h) H locs ls hl hP hz hS)
theorem jv_if_ne (C : Cx Γ cc nL own ω hh mT sT) {x : Int32} {off : Int} {tgt : Nat} (d : decode cc pc = .ok (.ifCond .ne off, 3)) (ht : (pc : Int) + off = (tgt : Int)) {A B : Option ρ} {inst : Decidable (x = 0)} (h : @ite (Option ρ) (x = 0) inst B A = some res) (k1 : A = some res → JJ Γ Q nL ω k M ce sl tgt lv st) (k2 : B = some res → JJ Γ Q nL ω k M ce sl (pc + 3) lv st) : JJ Γ Q nL ω k M ce sl pc lv (.int x :: st) := by
  obtain ⟨hx, hb, -⟩ := C
  intro H locs ls hl hP hz hS
  exact lv_if_ne hx hb d ht (fun c => k1 (by rw [if_neg c] at h; exact h) H locs ls hl hP hz hS) (fun c => k2 (by rw [if_pos c] at h; exact h) H locs ls hl hP hz hS)
theorem jv_icmp_ne (C : Cx Γ cc nL own ω hh mT sT) {x y : Int32} {off : Int} {tgt : Nat} (d : decode cc pc = .ok (.if_icmp .ne off, 3)) (ht : (pc : Int) + off = (tgt : Int)) {A B : Option ρ} {inst : Decidable (x = y)} (h : @ite (Option ρ) (x = y) inst B A = some res) (k1 : A = some res → JJ Γ Q nL ω k M ce sl tgt lv st) (k2 : B = some res → JJ Γ Q nL ω k M ce sl (pc + 3) lv st) : JJ Γ Q nL ω k M ce sl pc lv (.int y :: .int x :: st) := by
  obtain ⟨hx, hb, -⟩ := C
  intro H locs ls hl hP hz hS
  exact lv_icmp_ne hx hb d ht (fun c => k1 (by rw [if_neg c] at h; exact h) H locs ls hl hP hz hS) (fun c => k2 (by rw [if_pos c] at h; exact h) H locs ls hl hP hz hS)
theorem jv_if_lt (C : Cx Γ cc nL own ω hh mT sT) {x : Int32} {off : Int} {tgt : Nat} (d : decode cc pc = .ok (.ifCond .lt off, 3)) (ht : (pc : Int) + off = (tgt : Int)) {A B : Option ρ} {inst : Decidable (x < 0)} (h : @ite (Option ρ) (x < 0) inst A B = some res) (k1 : A = some res → JJ Γ Q nL ω k M ce sl tgt lv st) (k2 : B = some res → JJ Γ Q nL ω k M ce sl (pc + 3) lv st) : JJ Γ Q nL ω k M ce sl pc lv (.int x :: st) := by
  obtain ⟨hx, hb, -⟩ := C
  intro H locs ls hl hP hz hS
  exact lv_if_lt hx hb d ht (fun c => k1 (by rw [if_pos c] at h; exact h) H locs ls hl hP hz hS) (fun c => k2 (by rw [if_neg c] at h; exact h) H locs ls hl hP hz hS)
theorem jv_icmp_lt (C : Cx Γ cc nL own ω hh mT sT) {x y : Int32} {off : Int} {tgt : Nat} (d : decode cc pc = .ok (.if_icmp .lt off, 3)) (ht : (pc : Int) + off = (tgt : Int)) {A B : Option ρ} {inst : Decidable (x < y)} (h : @ite (Option ρ) (x < y) inst A B = some res) (k1 : A = some res → JJ Γ Q nL ω k M ce sl tgt lv st) (k2 : B = some res → JJ Γ Q nL ω k M ce sl (pc + 3) lv st) : JJ Γ Q nL ω k M ce sl pc lv (.int y :: .int x :: st) := by
  obtain ⟨hx, hb, -⟩ := C
  intro H locs ls hl hP hz hS
  exact lv_icmp_lt hx hb d ht (fun c => k1 (by rw [if_pos c] at h; exact h) H locs ls hl hP hz hS) (fun c => k2 (by rw [if_neg c] at h; exact h) H locs ls hl hP hz hS)
theorem jv_if_ge (C : Cx Γ cc nL own ω hh mT sT) {x : Int32} {off : Int} {tgt : Nat} (d : decode cc pc = .ok (.ifCond .ge off, 3)) (ht : (pc : Int) + off = (tgt : Int)) {A B : Option ρ} {inst : Decidable (0 ≤ x)} (h : @ite (Option ρ) (0 ≤ x) inst A B = some res) (k1 : A = some res → JJ Γ Q nL ω k M ce sl tgt lv st) (k2 : B = some res → JJ Γ Q nL ω k M ce sl (pc + 3) lv st) : JJ Γ Q nL ω k M ce sl pc lv (.int x :: st) := by
  obtain ⟨hx, hb, -⟩ := C
  intro H locs ls hl hP hz hS
  exact lv_if_ge hx hb d ht (fun c => k1 (by rw [if_pos c] at h; exact h) H locs ls hl hP hz hS) (fun c => k2 (by rw [if_neg c] at h; exact h) H locs ls hl hP hz hS)
theorem jv_icmp_ge (C : Cx Γ cc nL own ω hh mT sT) {x y : Int32} {off : Int} {tgt : Nat} (d : decode cc pc = .ok (.if_icmp .ge off, 3)) (ht : (pc : Int) + off = (tgt : Int)) {A B : Option ρ} {inst : Decidable (y ≤ x)} (h : @ite (Option ρ) (y ≤ x) inst A B = some res) (k1 : A = some res → JJ Γ Q nL ω k M ce sl tgt lv st) (k2 : B = some res → JJ Γ Q nL ω k M ce sl (pc + 3) lv st) : JJ Γ Q nL ω k M ce sl pc lv (.int y :: .int x :: st) := by
  obtain ⟨hx, hb, -⟩ := C
  intro H locs ls hl hP hz hS
  exact lv_icmp_ge hx hb d ht (fun c => k1 (by rw [if_pos c] at h; exact h) H locs ls hl hP hz hS) (fun c => k2 (by rw [if_neg c] at h; exact h) H locs ls hl hP hz hS)
theorem jv_if_gt (C : Cx Γ cc nL own ω hh mT sT) {x : Int32} {off : Int} {tgt : Nat} (d : decode cc pc = .ok (.ifCond .gt off, 3)) (ht : (pc : Int) + off = (tgt : Int)) {A B : Option ρ} {inst : Decidable (0 < x)} (h : @ite (Option ρ) (0 < x) inst A B = some res) (k1 : A = some res → JJ Γ Q nL ω k M ce sl tgt lv st) (k2 : B = some res → JJ Γ Q nL ω k M ce sl (pc + 3) lv st) : JJ Γ Q nL ω k M ce sl pc lv (.int x :: st) := by
  obtain ⟨hx, hb, -⟩ := C
  intro H locs ls hl hP hz hS
  exact lv_if_gt hx hb d ht (fun c => k1 (by rw [if_pos c] at h; exact h) H locs ls hl hP hz hS) (fun c => k2 (by rw [if_neg c] at h; exact h) H locs ls hl hP hz hS)
theorem jv_icmp_gt (C : Cx Γ cc nL own ω hh mT sT) {x y : Int32} {off : Int} {tgt : Nat} (d : decode cc pc = .ok (.if_icmp .gt off, 3)) (ht : (pc : Int) + off = (tgt : Int)) {A B : Option ρ} {inst : Decidable (y < x)} (h : @ite (Option ρ) (y < x) inst A B = some res) (k1 : A = some res → JJ Γ Q nL ω k M ce sl tgt lv st) (k2 : B = some res → JJ Γ Q nL ω k M ce sl (pc + 3) lv st) : JJ Γ Q nL ω k M ce sl pc lv (.int y :: .int x :: st) := by
  obtain ⟨hx, hb, -⟩ := C
  intro H locs ls hl hP hz hS
  exact lv_icmp_gt hx hb d ht (fun c => k1 (by rw [if_pos c] at h; exact h) H locs ls hl hP hz hS) (fun c => k2 (by rw [if_neg c] at h; exact h) H locs ls hl hP hz hS)
theorem jv_if_le (C : Cx Γ cc nL own ω hh mT sT) {x : Int32} {off : Int} {tgt : Nat} (d : decode cc pc = .ok (.ifCond .le off, 3)) (ht : (pc : Int) + off = (tgt : Int)) {A B : Option ρ} {inst : Decidable (x ≤ 0)} (h : @ite (Option ρ) (x ≤ 0) inst A B = some res) (k1 : A = some res → JJ Γ Q nL ω k M ce sl tgt lv st) (k2 : B = some res → JJ Γ Q nL ω k M ce sl (pc + 3) lv st) : JJ Γ Q nL ω k M ce sl pc lv (.int x :: st) := by
  obtain ⟨hx, hb, -⟩ := C
  intro H locs ls hl hP hz hS
  exact lv_if_le hx hb d ht (fun c => k1 (by rw [if_pos c] at h; exact h) H locs ls hl hP hz hS) (fun c => k2 (by rw [if_neg c] at h; exact h) H locs ls hl hP hz hS)
theorem jv_icmp_le (C : Cx Γ cc nL own ω hh mT sT) {x y : Int32} {off : Int} {tgt : Nat} (d : decode cc pc = .ok (.if_icmp .le off, 3)) (ht : (pc : Int) + off = (tgt : Int)) {A B : Option ρ} {inst : Decidable (x ≤ y)} (h : @ite (Option ρ) (x ≤ y) inst A B = some res) (k1 : A = some res → JJ Γ Q nL ω k M ce sl tgt lv st) (k2 : B = some res → JJ Γ Q nL ω k M ce sl (pc + 3) lv st) : JJ Γ Q nL ω k M ce sl pc lv (.int y :: .int x :: st) := by
  obtain ⟨hx, hb, -⟩ := C
  intro H locs ls hl hP hz hS
  exact lv_icmp_le hx hb d ht (fun c => k1 (by rw [if_pos c] at h; exact h) H locs ls hl hP hz hS) (fun c => k2 (by rw [if_neg c] at h; exact h) H locs ls hl hP hz hS)
def jv_FA (own : String) (idx ci j : Nat) : Prop := ∃ (C : String) (T : u_T) (N : Nat), cl_L[ci]? = some (C, T, N) ∧ j < N ∧ (∀ w ∈ u_ws C T N, w ∈ gd_L) ∧ (Cond.fieldLink own idx (T j).1 (T j).2.1 (T j).2.2.1 ∈ gd_L ∨ ∃ host, Cond.fieldLinkNest own idx (T j).1 (T j).2.1 (T j).2.2.1 host ∈ ns_L)
def jv_FP (own : String) (idx ci j : Nat) (ty : FieldType) : Prop := ∃ (C : String) (T : u_T) (N : Nat) (tf : Nat → FieldType), cl_L[ci]? = some (C, T, N) ∧ j < N ∧ (∀ w ∈ u_ws C T N, w ∈ gd_L) ∧ (∀ k, k < N → parseFieldDescriptor (T k).2.2.1 = some (tf k)) ∧ (∀ a, a < N → ∀ b, b < N → a ≠ b → (T a).2.1 ≠ (T b).2.1) ∧ parseFieldDescriptor (T j).2.2.1 = some ty ∧ (T j).2.2.2 = false ∧ (Cond.fieldLink own idx (T j).1 (T j).2.1 (T j).2.2.1 ∈ gd_L ∨ ∃ host, Cond.fieldLinkNest own idx (T j).1 (T j).2.1 (T j).2.2.1 host ∈ ns_L)
def jv_FF (own : String) (idx ci j : Nat) (ty : FieldType) : Prop := ∃ (C : String) (T : u_T) (N : Nat) (tf : Nat → FieldType), cl_L[ci]? = some (C, T, N) ∧ j < N ∧ (∀ w ∈ u_ws C T N, w ∈ gd_L) ∧ (∀ k, k < N → parseFieldDescriptor (T k).2.2.1 = some (tf k)) ∧ (∀ a, a < N → ∀ b, b < N → a ≠ b → (T a).2.1 ≠ (T b).2.1) ∧ parseFieldDescriptor (T j).2.2.1 = some ty ∧ (T j).2.2.2 = true ∧ (T j).1 = own ∧ Cond.fieldLink own idx (T j).1 (T j).2.1 (T j).2.2.1 ∈ gd_L
theorem jv_get (C : Cx Γ cc nL own ω hh mT sT) {idx ci j a : Nat} {v : Value} (fa : jv_FA own idx ci j) (d : decode cc pc = .ok (.getfield idx, 3)) (hv : mm_gV M a ci j = some v) (kk : JJ Γ Q nL ω k M ce sl (pc + 3) lv (v :: st)) : JJ Γ Q nL ω k M ce sl pc lv (.ref a :: st) := by
  obtain ⟨hx, hb, hml, hown, hts, hKW, hlk, hbs, hR⟩ := C
  intro H locs ls hl hP hz hS
  obtain ⟨fs, h1, h2⟩ := mm_gV_spec hv
  obtain ⟨C, T, N, hc, hj, hin, hlink⟩ := fa
  have h3 : (fs.map (sh ω))[j]? = some (sh ω v) := by simp [h2]
  rcases hlink with hlink | ⟨host, hlink⟩
  · exact va_get (D := ω.2.2.2) (ci := ci) (v := sh ω v) (C := C) (T := T) (N := N) hx hb hts hin hown hKW.1 hP a (toW_at h1) hc j hj (hts _ hlink) (fun _ h9 => h9) h3 d (kk H locs ls hl hP hz hS)
  · exact va_getN (D := ω.2.2.2) (ci := ci) (v := sh ω v) (C := C) (T := T) (N := N) hx hb hts hin hown hKW.1 hP a (toW_at h1) hc j hj (va_Nw.use rfl (hKW.2.1 _ hlink)) (fun _ h9 => h9) h3 d (kk H locs ls hl hP hz hS)
theorem jv_put (C : Cx Γ cc nL own ω hh mT sT) {idx ci j a : Nat} {v : Value} {ty : FieldType} {M' : Mem} (fp : jv_FP own idx ci j ty) (d : decode cc pc = .ok (.putfield idx, 3)) (hv : mm_pV M a ci j v = some M') (hn : narrow ty (sh ω v) = sh ω v) (hfit : fits ty (sh ω v) = true) (kk : JJ Γ Q nL ω k M' ce sl (pc + 3) lv st) : JJ Γ Q nL ω k M ce sl pc lv (v :: .ref a :: st) := by
  obtain ⟨hx, hb, hml, hown, hts, hKW, hlk, hbs, hR⟩ := C
  intro H locs ls hl hP hz hS
  obtain ⟨fs, h1, h2, rfl⟩ := mm_pV_spec hv
  obtain ⟨C, T, N, tf, hc, hj, hin, hty, hnm, hd, hfin, hlink⟩ := fp
  have hset : (toW ω M).set a (wz ω + a, .inr (ci, (fs.map (sh ω)).set j (sh ω v))) = toW ω (M.set a (.inr (ci, fs.set j v))) := by
    rw [← toW_set]
    simp [shE, List.map_set]
  have hsz : H.size = wz ω + (M.set a (.inr (ci, fs.set j v)) : Mem).length + k := by rw [List.length_set]; exact hz
  have hlink' : (Cond.fieldLink own idx (T j).1 (T j).2.1 (T j).2.2.1).before Γ.args Γ.s = true ∨ ∃ host, (Cond.fieldLinkNest own idx (T j).1 (T j).2.1 (T j).2.2.1 host).before Γ.args Γ.s = true := hlink.elim (fun h => Or.inl (hts _ h)) (fun ⟨host, h⟩ => Or.inr ⟨host, va_Nw.use rfl (hKW.2.1 _ h)⟩)
  refine mp_put (D := ω.2.2.2) (ci := ci) (v := sh ω v) (C := C) (T := T) (N := N) hx hb hts hin tf hty hnm hown hKW.1 hP toW_D hS a (toW_at h1) hc j hj hlink' (fun _ h9 => h9) hfin hd hn hfit (by simpa using h2) d (fun H1 locs1 hP1 hz1 hS1 => ?_)
  rw [hset] at hP1
  exact kk H1 locs1 ls hl hP1 (by rw [hz1]; exact hsz) hS1
theorem jv_putFn (C : Cx Γ cc nL own ω hh mT sT) {idx ci j a : Nat} {v : Value} {ty : FieldType} {M' : Mem} (fp : jv_FF own idx ci j ty) (hin2 : Γ.meth.name = "<init>") (d : decode cc pc = .ok (.putfield idx, 3)) (hv : mm_pV M a ci j v = some M') (hn : narrow ty (sh ω v) = sh ω v) (hfit : fits ty (sh ω v) = true) (kk : JJ Γ Q nL ω k M' ce sl (pc + 3) lv st) : JJ Γ Q nL ω k M ce sl pc lv (v :: .ref a :: st) := by
  obtain ⟨hx, hb, hml, hown, hts, hKW, hlk, hbs, hR⟩ := C
  intro H locs ls hl hP hz hS
  obtain ⟨fs, h1, h2, rfl⟩ := mm_pV_spec hv
  obtain ⟨C, T, N, tf, hc, hj, hin, hty, hnm, hd, hfin, hdecl, hlink⟩ := fp
  have hset : (toW ω M).set a (wz ω + a, .inr (ci, (fs.map (sh ω)).set j (sh ω v))) = toW ω (M.set a (.inr (ci, fs.set j v))) := by
    rw [← toW_set]
    simp [shE, List.map_set]
  have hsz : H.size = wz ω + (M.set a (.inr (ci, fs.set j v)) : Mem).length + k := by rw [List.length_set]; exact hz
  refine mp_putF (D := ω.2.2.2) (ci := ci) (v := sh ω v) (C := C) (T := T) (N := N) hx hb hts hin tf hty hnm hown hKW.1 hP toW_D hS a (toW_at h1) hc j hj (hts _ hlink) (fun _ h9 => h9) hfin hin2 hdecl hd hn hfit (by simpa using h2) d (fun H1 locs1 hP1 hz1 hS1 => ?_)
  rw [hset] at hP1
  exact kk H1 locs1 ls hl hP1 (by rw [hz1]; exact hsz) hS1
theorem jv_getI (C : Cx Γ cc nL own ω hh mT sT) {idx ci j a : Nat} (fa : jv_FA own idx ci j) (d : decode cc pc = .ok (.getfield idx, 3)) {K : Int32 → Option ρ} (h : (mm_gI M a ci j).bind K = some res) (kk : ∀ v, K v = some res → JJ Γ Q nL ω k M ce sl (pc + 3) lv (.int v :: st)) : JJ Γ Q nL ω k M ce sl pc lv (.ref a :: st) := by
  obtain ⟨v, h1, h2⟩ := Option.bind_eq_some_iff.mp h
  exact jv_get C fa d (mm_gI_spec h1) (kk v h2)
theorem jv_getL (C : Cx Γ cc nL own ω hh mT sT) {idx ci j a : Nat} (fa : jv_FA own idx ci j) (d : decode cc pc = .ok (.getfield idx, 3)) {K : Int64 → Option ρ} (h : (mm_gL M a ci j).bind K = some res) (kk : ∀ v, K v = some res → JJ Γ Q nL ω k M ce sl (pc + 3) lv (.long v :: st)) : JJ Γ Q nL ω k M ce sl pc lv (.ref a :: st) := by
  obtain ⟨v, h1, h2⟩ := Option.bind_eq_some_iff.mp h
  exact jv_get C fa d (mm_gL_spec h1) (kk v h2)
theorem jv_getR (C : Cx Γ cc nL own ω hh mT sT) {idx ci j a : Nat} (fa : jv_FA own idx ci j) (d : decode cc pc = .ok (.getfield idx, 3)) {K : Nat → Option ρ} (h : (mm_gR M a ci j).bind K = some res) (kk : ∀ v, K v = some res → JJ Γ Q nL ω k M ce sl (pc + 3) lv (.ref v :: st)) : JJ Γ Q nL ω k M ce sl pc lv (.ref a :: st) := by
  obtain ⟨v, h1, h2⟩ := Option.bind_eq_some_iff.mp h
  exact jv_get C fa d (mm_gR_spec h1) (kk v h2)
theorem jv_putI (C : Cx Γ cc nL own ω hh mT sT) {idx ci j a : Nat} {x : Int32} (fp : jv_FP own idx ci j .int) (d : decode cc pc = .ok (.putfield idx, 3)) {K : Mem → Option ρ} (h : (mm_pV M a ci j (.int x)).bind K = some res) (kk : ∀ M, K M = some res → JJ Γ Q nL ω k M ce sl (pc + 3) lv st) : JJ Γ Q nL ω k M ce sl pc lv (.int x :: .ref a :: st) := by
  obtain ⟨v, h1, h2⟩ := Option.bind_eq_some_iff.mp h
  exact jv_put C fp d h1 rfl rfl (kk v h2)
theorem jv_putL (C : Cx Γ cc nL own ω hh mT sT) {idx ci j a : Nat} {x : Int64} (fp : jv_FP own idx ci j .long) (d : decode cc pc = .ok (.putfield idx, 3)) {K : Mem → Option ρ} (h : (mm_pV M a ci j (.long x)).bind K = some res) (kk : ∀ M, K M = some res → JJ Γ Q nL ω k M ce sl (pc + 3) lv st) : JJ Γ Q nL ω k M ce sl pc lv (.long x :: .ref a :: st) := by
  obtain ⟨v, h1, h2⟩ := Option.bind_eq_some_iff.mp h
  exact jv_put C fp d h1 rfl rfl (kk v h2)
theorem jv_putZ (C : Cx Γ cc nL own ω hh mT sT) {idx ci j a : Nat} {x : Int32} (fp : jv_FP own idx ci j .boolean) (d : decode cc pc = .ok (.putfield idx, 3)) {K : Mem → Option ρ} (h : (mm_pZ M a ci j x).bind K = some res) (kk : ∀ M, K M = some res → JJ Γ Q nL ω k M ce sl (pc + 3) lv st) : JJ Γ Q nL ω k M ce sl pc lv (.int x :: .ref a :: st) := by
  obtain ⟨v, h1, h2⟩ := Option.bind_eq_some_iff.mp h
  unfold mm_pZ at h1
  split at h1
  · rename_i hx
    rcases hx with rfl | rfl
    · exact jv_put C fp d h1 rfl rfl (kk v h2)
    · exact jv_put C fp d h1 rfl rfl (kk v h2)
  · cases h1
theorem jv_putR (C : Cx Γ cc nL own ω hh mT sT) {idx ci j a x : Nat} {ty : FieldType} (fp : jv_FP own idx ci j ty) (d : decode cc pc = .ok (.putfield idx, 3)) (hn : ∀ q : Nat, narrow ty (.ref q) = .ref q ∧ fits ty (.ref q) = true) {K : Mem → Option ρ} (h : (mm_pV M a ci j (.ref x)).bind K = some res) (kk : ∀ M, K M = some res → JJ Γ Q nL ω k M ce sl (pc + 3) lv st) : JJ Γ Q nL ω k M ce sl pc lv (.ref x :: .ref a :: st) := by
  obtain ⟨v, h1, h2⟩ := Option.bind_eq_some_iff.mp h
  exact jv_put C fp d h1 (hn _).1 (hn _).2 (kk v h2)
theorem jv_putFR (C : Cx Γ cc nL own ω hh mT sT) {idx ci j a x : Nat} {ty : FieldType} (fp : jv_FF own idx ci j ty) (hin2 : Γ.meth.name = "<init>") (d : decode cc pc = .ok (.putfield idx, 3)) (hn : ∀ q : Nat, narrow ty (.ref q) = .ref q ∧ fits ty (.ref q) = true) {K : Mem → Option ρ} (h : (mm_pV M a ci j (.ref x)).bind K = some res) (kk : ∀ M, K M = some res → JJ Γ Q nL ω k M ce sl (pc + 3) lv st) : JJ Γ Q nL ω k M ce sl pc lv (.ref x :: .ref a :: st) := by
  obtain ⟨v, h1, h2⟩ := Option.bind_eq_some_iff.mp h
  exact jv_putFn C fp hin2 d h1 (hn _).1 (hn _).2 (kk v h2)
/-! arrays -/
theorem jv_alen (C : Cx Γ cc nL own ω hh mT sT) {a : Nat} (d : decode cc pc = .ok (.arraylength, 1)) {K : Int32 → Option ρ} (h : (mm_aN M a).bind K = some res) (kk : ∀ v, K v = some res → JJ Γ Q nL ω k M ce sl (pc + 1) lv (.int v :: st)) : JJ Γ Q nL ω k M ce sl pc lv (.ref a :: st) := by
  obtain ⟨hx, hb, hml, hown, hts, hKW, hlk, hbs, hR⟩ := C
  intro H locs ls hl hP hz hS
  obtain ⟨v, h1, h2⟩ := Option.bind_eq_some_iff.mp h
  obtain ⟨t, n, f, h3, h4, h5⟩ := mm_aN_spec h1
  have h6 : (shA ω (n, f)).1 = n := by unfold shA; split <;> simp_all
  obtain ⟨ty, hty⟩ : ∃ ty, (ty_L ω)[t]? = some (ω.2.2.1 t, ty) := by
    rcases (show t = 0 ∨ t = 1 ∨ t = 2 ∨ t = 3 ∨ t = 4 by omega) with rfl | rfl | rfl | rfl | rfl <;> exact ⟨_, rfl⟩
  exact va_alen (D := ω.2.2.2) hx hb hKW.1 hP a t (toW_at h3) hty (v := v) (by rw [h6]; exact h5) d (kk v h2 H locs ls hl hP hz hS)
theorem jv_iald (C : Cx Γ cc nL own ω hh mT sT) {a : Nat} {i : Int32} (d : decode cc pc = .ok (.iaload, 1)) {K : Int32 → Option ρ} (h : (mm_aI M a 0 i).bind K = some res) (kk : ∀ v, K v = some res → JJ Γ Q nL ω k M ce sl (pc + 1) lv (.int v :: st)) : JJ Γ Q nL ω k M ce sl pc lv (.int i :: .ref a :: st) := by
  obtain ⟨hx, hb, hml, hown, hts, hKW, hlk, hbs, hR⟩ := C
  intro H locs ls hl hP hz hS
  obtain ⟨v, h1, h2⟩ := Option.bind_eq_some_iff.mp h
  obtain ⟨n, f, h3, h4, rfl⟩ := mm_aI_spec h1
  exact va_iald (D := ω.2.2.2) hx hb hKW.1 hP a 0 (toW_at h3) rfl h4 d (kk _ h2 H locs ls hl hP hz hS)
theorem jv_bald (C : Cx Γ cc nL own ω hh mT sT) {a : Nat} {i : Int32} (d : decode cc pc = .ok (.baload, 1)) {K : Int32 → Option ρ} (h : (mm_aI M a 2 i).bind K = some res) (kk : ∀ v, K v = some res → JJ Γ Q nL ω k M ce sl (pc + 1) lv (.int v :: st)) : JJ Γ Q nL ω k M ce sl pc lv (.int i :: .ref a :: st) := by
  obtain ⟨hx, hb, hml, hown, hts, hKW, hlk, hbs, hR⟩ := C
  intro H locs ls hl hP hz hS
  obtain ⟨v, h1, h2⟩ := Option.bind_eq_some_iff.mp h
  obtain ⟨n, f, h3, h4, rfl⟩ := mm_aI_spec h1
  exact va_bald (D := ω.2.2.2) hx hb hKW.1 hP a 2 (toW_at h3) rfl h4 d (kk _ h2 H locs ls hl hP hz hS)
theorem jv_zald (C : Cx Γ cc nL own ω hh mT sT) {a : Nat} {i : Int32} (d : decode cc pc = .ok (.baload, 1)) {K : Int32 → Option ρ} (h : (mm_aI M a 3 i).bind K = some res) (kk : ∀ v, K v = some res → JJ Γ Q nL ω k M ce sl (pc + 1) lv (.int v :: st)) : JJ Γ Q nL ω k M ce sl pc lv (.int i :: .ref a :: st) := by
  obtain ⟨hx, hb, hml, hown, hts, hKW, hlk, hbs, hR⟩ := C
  intro H locs ls hl hP hz hS
  obtain ⟨v, h1, h2⟩ := Option.bind_eq_some_iff.mp h
  obtain ⟨n, f, h3, h4, rfl⟩ := mm_aI_spec h1
  exact va_zald (D := ω.2.2.2) hx hb hKW.1 hP a 3 (toW_at h3) rfl h4 d (kk _ h2 H locs ls hl hP hz hS)
theorem jv_lald (C : Cx Γ cc nL own ω hh mT sT) {a : Nat} {i : Int32} (d : decode cc pc = .ok (.laload, 1)) {K : Int64 → Option ρ} (h : (mm_aL M a i).bind K = some res) (kk : ∀ v, K v = some res → JJ Γ Q nL ω k M ce sl (pc + 1) lv (.long v :: st)) : JJ Γ Q nL ω k M ce sl pc lv (.int i :: .ref a :: st) := by
  obtain ⟨hx, hb, hml, hown, hts, hKW, hlk, hbs, hR⟩ := C
  intro H locs ls hl hP hz hS
  obtain ⟨v, h1, h2⟩ := Option.bind_eq_some_iff.mp h
  obtain ⟨n, f, h3, h4, rfl⟩ := mm_aL_spec h1
  exact va_lald (D := ω.2.2.2) hx hb hKW.1 hP a 1 (toW_at h3) rfl h4 d (kk _ h2 H locs ls hl hP hz hS)
theorem jv_aald (C : Cx Γ cc nL own ω hh mT sT) {a : Nat} {i : Int32} (d : decode cc pc = .ok (.aaload, 1)) {K : Nat → Option ρ} (h : (mm_aR M a i).bind K = some res) (kk : ∀ v, K v = some res → JJ Γ Q nL ω k M ce sl (pc + 1) lv (.ref v :: st)) : JJ Γ Q nL ω k M ce sl pc lv (.int i :: .ref a :: st) := by
  obtain ⟨hx, hb, hml, hown, hts, hKW, hlk, hbs, hR⟩ := C
  intro H locs ls hl hP hz hS
  obtain ⟨v, h1, h2⟩ := Option.bind_eq_some_iff.mp h
  obtain ⟨n, f, h3, h4, h5⟩ := mm_aR_spec h1
  refine va_aldq (D := ω.2.2.2) hx hb hKW.1 hP a 4 (toW_at h3) rfl h4 d ?_
  rw [h5]
  exact kk _ h2 H locs ls hl hP hz hS
theorem jv_iast (C : Cx Γ cc nL own ω hh mT sT) {a : Nat} {i x : Int32} (d : decode cc pc = .ok (.iastore, 1)) {K : Mem → Option ρ} (h : (mm_sI M a 0 i x).bind K = some res) (kk : ∀ M, K M = some res → JJ Γ Q nL ω k M ce sl (pc + 1) lv st) : JJ Γ Q nL ω k M ce sl pc lv (.int x :: .int i :: .ref a :: st) := by
  obtain ⟨hx, hb, hml, hown, hts, hKW, hlk, hbs, hR⟩ := C
  intro H locs ls hl hP hz hS
  obtain ⟨v, h1, h2⟩ := Option.bind_eq_some_iff.mp h
  obtain ⟨n, f, h3, h4, rfl⟩ := mm_sI_spec h1
  refine mp_iast (D := ω.2.2.2) hx hb hKW.1 hP toW_D hS a 0 (toW_at h3) rfl h4 d (fun H1 locs1 hP1 hz1 hS1 => ?_)
  exact kk _ h2 H1 locs1 ls hl (by rw [← toW_set]; exact hP1) (by rw [List.length_set, hz1]; exact hz) hS1
theorem jv_bast (C : Cx Γ cc nL own ω hh mT sT) {a : Nat} {i x : Int32} (d : decode cc pc = .ok (.bastore, 1)) {K : Mem → Option ρ} (h : (mm_sI M a 2 i (vp_nar .byte x)).bind K = some res) (kk : ∀ M, K M = some res → JJ Γ Q nL ω k M ce sl (pc + 1) lv st) : JJ Γ Q nL ω k M ce sl pc lv (.int x :: .int i :: .ref a :: st) := by
  obtain ⟨hx, hb, hml, hown, hts, hKW, hlk, hbs, hR⟩ := C
  intro H locs ls hl hP hz hS
  obtain ⟨v, h1, h2⟩ := Option.bind_eq_some_iff.mp h
  obtain ⟨n, f, h3, h4, rfl⟩ := mm_sI_spec h1
  refine mp_bast (D := ω.2.2.2) hx hb hKW.1 hP toW_D hS a 2 (toW_at h3) rfl h4 d (fun H1 locs1 hP1 hz1 hS1 => ?_)
  exact kk _ h2 H1 locs1 ls hl (by rw [← toW_set]; exact hP1) (by rw [List.length_set, hz1]; exact hz) hS1
theorem jv_zast (C : Cx Γ cc nL own ω hh mT sT) {a : Nat} {i x : Int32} (d : decode cc pc = .ok (.bastore, 1)) {K : Mem → Option ρ} (h : (mm_sI M a 3 i (vp_nar .boolean x)).bind K = some res) (kk : ∀ M, K M = some res → JJ Γ Q nL ω k M ce sl (pc + 1) lv st) : JJ Γ Q nL ω k M ce sl pc lv (.int x :: .int i :: .ref a :: st) := by
  obtain ⟨hx, hb, hml, hown, hts, hKW, hlk, hbs, hR⟩ := C
  intro H locs ls hl hP hz hS
  obtain ⟨v, h1, h2⟩ := Option.bind_eq_some_iff.mp h
  obtain ⟨n, f, h3, h4, rfl⟩ := mm_sI_spec h1
  refine mp_zast (D := ω.2.2.2) hx hb hKW.1 hP toW_D hS a 3 (toW_at h3) rfl h4 d (fun H1 locs1 hP1 hz1 hS1 => ?_)
  exact kk _ h2 H1 locs1 ls hl (by rw [← toW_set]; exact hP1) (by rw [List.length_set, hz1]; exact hz) hS1
theorem jv_last (C : Cx Γ cc nL own ω hh mT sT) {a : Nat} {i : Int32} {x : Int64} (d : decode cc pc = .ok (.lastore, 1)) {K : Mem → Option ρ} (h : (mm_sL M a i x).bind K = some res) (kk : ∀ M, K M = some res → JJ Γ Q nL ω k M ce sl (pc + 1) lv st) : JJ Γ Q nL ω k M ce sl pc lv (.long x :: .int i :: .ref a :: st) := by
  obtain ⟨hx, hb, hml, hown, hts, hKW, hlk, hbs, hR⟩ := C
  intro H locs ls hl hP hz hS
  obtain ⟨v, h1, h2⟩ := Option.bind_eq_some_iff.mp h
  obtain ⟨n, f, h3, h4, rfl⟩ := mm_sL_spec h1
  refine mp_last (D := ω.2.2.2) hx hb hKW.1 hP toW_D hS a 1 (toW_at h3) rfl h4 d (fun H1 locs1 hP1 hz1 hS1 => ?_)
  exact kk _ h2 H1 locs1 ls hl (by rw [← toW_set]; exact hP1) (by rw [List.length_set, hz1]; exact hz) hS1
theorem jv_aast (C : Cx Γ cc nL own ω hh mT sT) {a x : Nat} {i : Int32} (d : decode cc pc = .ok (.aastore, 1)) {K : Mem → Option ρ} (h : (mm_sR M a i x).bind K = some res) (kk : ∀ M, K M = some res → JJ Γ Q nL ω k M ce sl (pc + 1) lv st) : JJ Γ Q nL ω k M ce sl pc lv (.ref x :: .int i :: .ref a :: st) := by
  obtain ⟨hx, hb, hml, hown, hts, hKW, hlk, hbs, hR⟩ := C
  intro H locs ls hl hP hz hS
  obtain ⟨v, h1, h2⟩ := Option.bind_eq_some_iff.mp h
  obtain ⟨n, f, fs, h3, h4, h5, rfl⟩ := mm_sR_spec h1
  refine mp_astq (D := ω.2.2.2) (r := (RX7, TX7, 15)) hx hb hKW.1 hP toW_D hS a 4 x 7 (toW_at h3) rfl (toW_at h5) rfl h4 d (fun H1 locs1 hP1 hz1 hS1 => ?_)
  refine kk _ h2 H1 locs1 ls hl ?_ (by rw [List.length_set, hz1]; exact hz) hS1
  rw [← toW_set]
  have e : (fun j => ((va_up f i.toNatClampNeg (some x)) j).map (fun a => wz ω + a)) = va_up (fun j => (f j).map (fun a => wz ω + a)) i.toNatClampNeg (some (wz ω + x)) := by
    funext j
    unfold va_up
    split <;> rfl
  show va_P _ _ (List.set (toW ω M) a (wz ω + a, .inl (ω.2.2.1 4, n, .inr (.inr (.inr (.inr (fun j => ((va_up f i.toNatClampNeg (some x)) j).map (fun a => wz ω + a)))))))) H1
  rw [e]
  exact hP1
theorem jv_acopy (C : Cx Γ cc nL own ω (hh + 1) mT sT) {idx a0 a : Nat} {sp dp n : Int32} (g1 : Cond.methodLink own idx arraycopyName ∈ gd_L) (g2 : Cond.native arraycopyName ∈ gd_L) (g3 : Cond.static arraycopyName ∈ gd_L) (g4 : Cond.initialized "java/lang/System" ∈ gd_L) (d : decode cc pc = .ok (.invokestatic idx, 3)) (hst : (st.map fun v => v.category).sum + (nativeFrameWords "java/lang/System" "arraycopy" 5 + 11) ≤ 100) {K : Mem → Option ρ} (h : (mm_cp M a0 sp a dp n).bind K = some res) (kk : ∀ M, K M = some res → JJ Γ Q nL ω k M ce sl (pc + 3) lv st) : JJ Γ Q nL ω k M ce sl pc lv (.int n :: .int dp :: .ref a :: .int sp :: .ref a0 :: st) := by
  obtain ⟨hx, hb, hml, hown, hts, hKW, hlk, hbs, hR⟩ := C
  intro H locs ls hl hP hz hS
  obtain ⟨v, h1, h2⟩ := Option.bind_eq_some_iff.mp h
  obtain ⟨n0, f, n1, g, q1, q2, q3, q4, q5, q6, q7, rfl⟩ := mm_cp_spec h1
  have hcat : ((st.map (sh ω)).map fun v => v.category).sum = (st.map fun v => v.category).sum := by
    rw [List.map_map]; congr 2; funext v; exact sh_cat ω v
  refine mp_copyi (D := ω.2.2.2) hx hb (by rw [hml, hl.1]) hown (hts _ g1) (hts _ g2) (hts _ g3) (hts _ g4) hKW.1 hP toW_D hS a0 a 0 0 (toW_at q1) (toW_at q2) rfl rfl rfl q3 q4 q5 q6 q7 (fun _ _ => rfl) (Nat.le_trans (Nat.succ_le_succ (Nat.zero_le _)) hR.1) (by rw [hcat]; have := hR.2.2.2; omega) d (fun H1 locs1 hP1 hz1 hS1 => ?_)
  exact kk _ h2 H1 locs1 ls hl (by rw [← toW_set]; exact hP1) (by rw [List.length_set, hz1]; exact hz) hS1
/-! new cells (no cell beside the small heap may lie behind it: k = 0) -/
theorem jv_new (C : Cx Γ cc nL own ω hh mT sT) {idx ci N : Nat} {Cn : String} {T : u_T} {fs : List Value} (hc : cl_L[ci]? = some (Cn, T, N)) (hin : ∀ w ∈ u_ws Cn T N, w ∈ gd_L) (tf : Nat → FieldType) (hty : ∀ k, k < N → parseFieldDescriptor (T k).2.2.1 = some (tf k)) (g1 : Cond.classLink own idx Cn ∈ gd_L) (g2 : Cond.instantiable Cn N ∈ gd_L) (g3 : Cond.initialized Cn ∈ gd_L) (hfs : ∀ j, j < N → defaultValue (tf j) = vp_V (fs.map (sh ω)) j) (hce : ce + 1 ≤ mT) (hsl : sl + N ≤ sT) (d : decode cc pc = .ok (.new idx, 3)) (kk : JJ Γ Q nL ω 0 (M ++ [.inr (ci, fs)]) (ce + 1) (sl + N) (pc + 3) lv (.ref M.length :: st)) : JJ Γ Q nL ω 0 M ce sl pc lv st := by
  obtain ⟨hx, hb, hml, hown, hts, hKW, hlk, hbs, hR⟩ := C
  intro H locs ls hl hP hz hS
  refine mp_new (D := ω.2.2.2) (ci := ci) (fs := fs.map (sh ω)) (C := Cn) (T := T) (N := N) hx hb hts hin tf hty hown (hts _ g1) (hts _ g2) (hts _ g3) hKW.1 hP hS hc hfs (Nat.le_trans hce hR.2.1) (Nat.le_trans hsl hR.2.2.1) d (fun H1 hP1 hz1 hS1 => ?_)
  have e : H.size = wz ω + M.length := by rw [hz]; omega
  rw [e] at hP1 hz1 ⊢
  exact kk H1 locs ls hl (by rw [toW_app]; exact hP1) (by rw [hz1, List.length_append]; rfl) hS1
theorem jv_newa (C : Cx Γ cc nL own ω hh mT sT) {t lim by_ : Nat} {n : Int32} {at_ : ArrayType} {ty : FieldType} {a0 : Nat → vp_A} (g1 : Cond.arrayClass (newarray.typeOf at_) ∈ gd_L) (hty : newarray.typeOf at_ = ty) (ht : (ty_L ω)[t]? = some (ω.2.2.1 t, ty)) (hob : va_RA Γ.s (ω.2.2.1 t) ty → Γ.s.vm.findClass ("[" ++ ty.toString) = some (ω.2.2.1 t)) (ha : ∀ (N : Nat) (cA : ClassId), vp_cell cA (shA ω (a0 N)) = arrV cA N (fun _ => defaultValue ty)) (hby : componentBytes ty = by_) (hlim : lim * by_ ≤ 536870912) (hce : ce + 1 ≤ mT) (hsl : sl + lim ≤ sT) (d : decode cc pc = .ok (.newarray at_, 2)) {K : Nat × Mem → Option ρ} (h : (mm_nA M lim n (fun N => .inl (t, a0 N))).bind K = some res) (kk : ∀ a M, K (a, M) = some res → JJ Γ Q nL ω 0 M (ce + 1) (sl + lim) (pc + 2) lv (.ref a :: st)) : JJ Γ Q nL ω 0 M ce sl pc lv (.int n :: st) := by
  obtain ⟨hx, hb, hml, hown, hts, hKW, hlk, hbs, hR⟩ := C
  intro H locs ls hl hP hz hS
  obtain ⟨⟨a, M'⟩, h1, h2⟩ := Option.bind_eq_some_iff.mp h
  unfold mm_nA at h1
  split at h1
  · cases h1
  rename_i hn
  cases h1
  have hn1 : ¬ n < 0 := fun q => hn (Or.inl q)
  have hn2 : n.toNatClampNeg ≤ lim := Nat.not_lt.mp fun q => hn (Or.inr q)
  have hcA := hob (hKW.1.2 t _ ht).2
  refine mp_newa (D := ω.2.2.2) hx hb (hts _ g1) hty hP hS hcA (a0 := shA ω (a0 n.toNatClampNeg)) (ha _) hn1 rfl (by rw [hby]; exact Nat.le_trans (Nat.mul_le_mul_right _ hn2) hlim) (Nat.le_trans hce hR.2.1) (by have := hR.2.2.1; omega) d (fun H1 hP1 hz1 hS1 => ?_)
  have e : H.size = wz ω + M.length := by rw [hz]; omega
  rw [e] at hP1 hz1 ⊢
  refine W.widen (k := ce + 1) (n := sl + lim) (Nat.le_refl _) (by omega) ?_
  exact kk _ _ h2 H1 locs ls hl (by rw [toW_app]; exact hP1) (by rw [hz1, List.length_append]; rfl) hS1
theorem jv_newq (C : Cx Γ cc nL own ω hh mT sT) {idx lim : Nat} {n : Int32} (g1 : Cond.classLink own idx "CoinSorter$State" ∈ gd_L) (hlim : lim * 4 ≤ 536870912) (hce : ce + 1 ≤ mT) (hsl : sl + lim ≤ sT) (d : decode cc pc = .ok (.anewarray idx, 3)) {K : Nat × Mem → Option ρ} (h : (mm_nA M lim n (fun N => .inl (4, N, .inr (.inr (.inr (.inr (fun _ => none))))))).bind K = some res) (kk : ∀ a M, K (a, M) = some res → JJ Γ Q nL ω 0 M (ce + 1) (sl + lim) (pc + 3) lv (.ref a :: st)) : JJ Γ Q nL ω 0 M ce sl pc lv (.int n :: st) := by
  obtain ⟨hx, hb, hml, hown, hts, hKW, hlk, hbs, hR⟩ := C
  intro H locs ls hl hP hz hS
  obtain ⟨⟨a, M'⟩, h1, h2⟩ := Option.bind_eq_some_iff.mp h
  unfold mm_nA at h1
  split at h1
  · cases h1
  rename_i hn
  cases h1
  have hn1 : ¬ n < 0 := fun q => hn (Or.inl q)
  have hn2 : n.toNatClampNeg ≤ lim := Nat.not_lt.mp fun q => hn (Or.inr q)
  obtain ⟨kA, comp, k1, k2, k3, k4⟩ := (hKW.1.2 4 (ω.2.2.1 4, .object "CoinSorter$State") rfl).2
  refine mp_newq (D := ω.2.2.2) hx hb hown (hts _ g1) (va_AO.use hKW.2.2.1) hP hS k4 hn1 rfl (Nat.le_trans (Nat.mul_le_mul_right _ hn2) hlim) (Nat.le_trans hce hR.2.1) (by have := hR.2.2.1; omega) d (fun H1 hP1 hz1 hS1 => ?_)
  have e : H.size = wz ω + M.length := by rw [hz]; omega
  rw [e] at hP1 hz1 ⊢
  refine W.widen (k := ce + 1) (n := sl + lim) (Nat.le_refl _) (by omega) ?_
  exact kk _ _ h2 H1 locs ls hl (by rw [toW_app]; exact hP1) (by rw [hz1, List.length_append]; rfl) hS1
/-! Math -/
theorem jv_mmax (C : Cx Γ cc nL own ω (hh + 1) mT sT) {idx : Nat} {x y : Int32} (g1 : Cond.methodLink own idx Lib.Math.max.name ∈ gd_L) (g2 : Cond.static Lib.Math.max.name ∈ gd_L) (g3 : Cond.initialized "java/lang/Math" ∈ gd_L) (g4 : Cond.code Lib.Math.max.name Lib.Math.max.code 2 (some .int) ∈ gd_L) (hce : ce ≤ mT) (hsl : sl ≤ sT) (hst : (st.map fun v => v.category).sum + 13 ≤ 100) (d : decode cc pc = .ok (.invokestatic idx, 3)) (kk : JJ Γ Q nL ω k M ce sl (pc + 3) lv (.int (if x < y then y else x) :: st)) : JJ Γ Q nL ω k M ce sl pc lv (.int y :: .int x :: st) := by
  obtain ⟨hx, hb, hml, hown, hts, hKW, hlk, hbs, hR⟩ := C
  intro H locs ls hl hP hz hS
  have hcat : ((st.map (sh ω)).map fun v => v.category).sum = (st.map fun v => v.category).sum := by
    rw [List.map_map]; congr 2; funext v; exact sh_cat ω v
  exact va_mmax hx hb (by rw [hml, hl.1]) hown (hts _ g1) (hts _ g2) (hts _ g3) (hts _ g4) (Nat.le_trans (Nat.succ_le_succ (Nat.zero_le _)) hR.1) (by rw [hcat]; have := hR.2.2.2; omega) (Nat.le_trans hce hR.2.1) (Nat.le_trans hsl hR.2.2.1) d (kk H locs ls hl hP hz hS)
theorem jv_mmin (C : Cx Γ cc nL own ω (hh + 1) mT sT) {idx : Nat} {x y : Int32} (g1 : Cond.methodLink own idx Lib.Math.min.name ∈ gd_L) (g2 : Cond.static Lib.Math.min.name ∈ gd_L) (g3 : Cond.initialized "java/lang/Math" ∈ gd_L) (g4 : Cond.code Lib.Math.min.name Lib.Math.min.code 2 (some .int) ∈ gd_L) (hce : ce ≤ mT) (hsl : sl ≤ sT) (hst : (st.map fun v => v.category).sum + 13 ≤ 100) (d : decode cc pc = .ok (.invokestatic idx, 3)) (kk : JJ Γ Q nL ω k M ce sl (pc + 3) lv (.int (if y < x then y else x) :: st)) : JJ Γ Q nL ω k M ce sl pc lv (.int y :: .int x :: st) := by
  obtain ⟨hx, hb, hml, hown, hts, hKW, hlk, hbs, hR⟩ := C
  intro H locs ls hl hP hz hS
  have hcat : ((st.map (sh ω)).map fun v => v.category).sum = (st.map fun v => v.category).sum := by
    rw [List.map_map]; congr 2; funext v; exact sh_cat ω v
  exact va_mmin hx hb (by rw [hml, hl.1]) hown (hts _ g1) (hts _ g2) (hts _ g3) (hts _ g4) (Nat.le_trans (Nat.succ_le_succ (Nat.zero_le _)) hR.1) (by rw [hcat]; have := hR.2.2.2; omega) (Nat.le_trans hce hR.2.1) (Nat.le_trans hsl hR.2.2.1) d (kk H locs ls hl hP hz hS)
theorem jv_mabs (C : Cx Γ cc nL own ω (hh + 1) mT sT) {idx : Nat} {x : Int32} (g1 : Cond.methodLink own idx Lib.Math.abs.name ∈ gd_L) (g2 : Cond.static Lib.Math.abs.name ∈ gd_L) (g3 : Cond.initialized "java/lang/Math" ∈ gd_L) (g4 : Cond.code Lib.Math.abs.name Lib.Math.abs.code 1 (some .int) ∈ gd_L) (hce : ce ≤ mT) (hsl : sl ≤ sT) (hst : (st.map fun v => v.category).sum + 13 ≤ 100) (d : decode cc pc = .ok (.invokestatic idx, 3)) (kk : JJ Γ Q nL ω k M ce sl (pc + 3) lv (.int (if 0 ≤ x then x else 0 - x) :: st)) : JJ Γ Q nL ω k M ce sl pc lv (.int x :: st) := by
  obtain ⟨hx, hb, hml, hown, hts, hKW, hlk, hbs, hR⟩ := C
  intro H locs ls hl hP hz hS
  have hcat : ((st.map (sh ω)).map fun v => v.category).sum = (st.map fun v => v.category).sum := by
    rw [List.map_map]; congr 2; funext v; exact sh_cat ω v
  exact va_mabs hx hb (by rw [hml, hl.1]) hown (hts _ g1) (hts _ g2) (hts _ g3) (hts _ g4) (Nat.le_trans (Nat.succ_le_succ (Nat.zero_le _)) hR.1) (by rw [hcat]; have := hR.2.2.2; omega) (Nat.le_trans hce hR.2.1) (Nat.le_trans hsl hR.2.2.1) d (kk H locs ls hl hP hz hS)
theorem jv_objInit (C : Cx Γ cc nL own ω (hh + 1) mT sT) {idx a : Nat} (g1 : Cond.methodLink own idx Lib.objectInit ∈ gd_L) (g2 : Cond.instanceMethod Lib.objectInit ∈ gd_L) (g3 : Cond.code Lib.objectInit ⟨#[0xb1]⟩ 1 none ∈ gd_L) (hst : (st.map fun v => v.category).sum + 12 ≤ 100) (d : decode cc pc = .ok (.invokespecial idx, 3)) (kk : JJ Γ Q nL ω k M ce sl (pc + 3) lv st) : JJ Γ Q nL ω k M ce sl pc lv (.ref a :: st) := by
  obtain ⟨hx, hb, hml, hown, hts, hKW, hlk, hbs, hR⟩ := C
  intro H locs ls hl hP hz hS
  have hcat : ((st.map (sh ω)).map fun v => v.category).sum = (st.map fun v => v.category).sum := by
    rw [List.map_map]; congr 2; funext v; exact sh_cat ω v
  exact W.objInit hx hb hown (hts _ g1) (hts _ g2) (hts _ g3) rfl (by rw [hml]; exact hl.1) rfl d (Nat.le_trans (Nat.succ_le_succ (Nat.zero_le _)) hR.1) (by have := hR.2.2.2; show 2 * 0 + _ + 12 ≤ _; rw [hcat]; omega) (kk H locs ls hl hP hz hS)
/-! contracts and calls -/
def PC (ω : Wd) (k : Nat) (M : Mem) (av : List Value) : Array Value → State → Prop := fun v U => v = (av.map (sh ω)).toArray ∧ KW ω U ∧ va_P ω.2.2.2 cl_L (toW ω M) U.heap ∧ U.heap.size = wz ω + M.length + k ∧ ∀ q, q < wz ω → U.heap[q]? = ω.1[q]?
def QC (ω : Wd) (k : Nat) (r : Option Value) (M' : Mem) : Array Value → State → Outcome → State → Prop := fun _ st o t => o = .returned (r.map (sh ω)) ∧ va_P ω.2.2.2 cl_L (toW ω M') t.heap ∧ t.heap.size = wz ω + M'.length + k ∧ va_F (mA ω) st t
/-- method y, at height h over the leaves, from the small heap M comes to M' and answers r -/
def CM (l : Launch) (ω : Wd) (k : Nat) (y : MethodName) (cc : ByteArray) (mL : Nat) (ret : Option FieldType) (h mc ms : Nat) (av : List Value) (M : Mem) (r : Option Value) (M' : Mem) : Prop :=
  Met l y (Cond.code y cc mL ret :: gd_L) (rm_ h mc ms) (PC ω k M av) (QC ω k r M') mc ms (mA ω)
abbrev QF (Γ : Gm) (ω : Wd) (k mc ms : Nat) (r : Option Value) (M' : Mem) : State → Prop := MQ Γ.below (QC ω k r M') Γ.args Γ.s mc ms (mA ω)
theorem PC.blind {ω : Wd} {k : Nat} {M : Mem} {av : List Value} : FrameBlind (PC ω k M av) := fun _ _ _ _ h => ⟨h.1, h.2.1.calling, h.2.2⟩
theorem gd_in {y : MethodName} {cc : ByteArray} {mL : Nat} {ret : Option FieldType} (h : Cond.code y cc mL ret ∈ gd_L) : GoodIn gd_L (Cond.code y cc mL ret :: gd_L) := fun w hw => by
  rcases List.mem_cons.mp hw with rfl | hw
  · exact ⟨h, good_of_word (gd_good h)⟩
  · exact ⟨hw, good_of_word (gd_good hw)⟩
theorem jv_iret (C : Cx Γ cc nL own ω hh mT sT) (hr : Γ.meth.sig.returnType = some .int) {x : Int32} {r : Int32} {M' : Mem} (d : decode cc pc = .ok (.ireturn, 1)) (h : some (x, M) = some (r, M')) : JJ Γ (QF Γ ω k ce sl (some (.int r)) M') nL ω k M ce sl pc lv [.int x] := by
  obtain ⟨hx, hb, hml, hown, hts, hKW, hlk, hbs, hR⟩ := C
  intro H locs ls hl hP hz hS
  cases h
  exact W.iret hx hb hr (fun t ht hW => ⟨rfl, by rw [ht]; exact hP, by rw [ht]; exact hz, hS.F ht⟩) hS.2.2 d hlk
theorem jv_zret (C : Cx Γ cc nL own ω hh mT sT) (hr : Γ.meth.sig.returnType = some .boolean) {x : Int32} {r : Int32} {M' : Mem} (d : decode cc pc = .ok (.ireturn, 1)) (h : (if x = 0 ∨ x = 1 then some (x, M) else none) = some (r, M')) : JJ Γ (QF Γ ω k ce sl (some (.int r)) M') nL ω k M ce sl pc lv [.int x] := by
  obtain ⟨hx, hb, hml, hown, hts, hKW, hlk, hbs, hR⟩ := C
  intro H locs ls hl hP hz hS
  split at h
  · rename_i hz1
    cases h
    exact W.zret hx hb hr (by rcases hz1 with rfl | rfl <;> rfl) (fun t ht hW => ⟨rfl, by rw [ht]; exact hP, by rw [ht]; exact hz, hS.F ht⟩) hS.2.2 d hlk
  · cases h
theorem jv_vret (C : Cx Γ cc nL own ω hh mT sT) (hr : Γ.meth.sig.returnType = none) {r : Unit} {M' : Mem} (d : decode cc pc = .ok (.return_, 1)) (h : some ((), M) = some (r, M')) : JJ Γ (QF Γ ω k ce sl none M') nL ω k M ce sl pc lv [] := by
  obtain ⟨hx, hb, hml, hown, hts, hKW, hlk, hbs, hR⟩ := C
  intro H locs ls hl hP hz hS
  cases h
  exact W.vret hx hb hr (fun t ht hW => ⟨rfl, by rw [ht]; exact hP, by rw [ht]; exact hz, hS.F ht⟩) hS.2.2 d hlk
theorem jv_widen {ce' sl' : Nat} (h1 : ce ≤ ce') (h2 : sl ≤ sl') (kk : JJ Γ Q nL ω k M ce' sl' pc lv st) : JJ Γ Q nL ω k M ce sl pc lv st := fun H locs ls hl hP hz hS => W.widen h1 h2 (kk H locs ls hl hP hz hS)
theorem jv_back {H : Heap} {locs : List Loc} {ls : Array Slot} {st0 rest : List Value} {a : Array Value} {r : Option Value} {M' : Mem} {mc ms : Nat} (hr : va_Run Γ.1 Γ.2.1 Γ.2.2.1 Γ.2.2.2.1 Γ.s Γ.m Γ.args Γ.below Γ.meth Γ.c H locs ce sl mc ms (F0 Γ.m pc ls st0) rest (QC ω k r M' a) (mA ω)) (hS : va_S (mA ω) Γ.s.heap H locs)
    (kk : ∀ (H1 : Heap) (locs1 : List Loc), va_P ω.2.2.2 cl_L (toW ω M') H1 → H1.size = wz ω + M'.length + k → va_S (mA ω) Γ.s.heap H1 locs1 → W Γ.1 Γ.2.1 Γ.2.2.1 Γ.2.2.2.1 Γ.s Γ.m Γ.args Γ.below Γ.meth Γ.c H1 locs1 (ce + mc) (sl + ms) Q (F0 Γ.m (pc + 3) ls ((r.map (sh ω)).toList ++ rest))) :
    W Γ.1 Γ.2.1 Γ.2.2.1 Γ.2.2.2.1 Γ.s Γ.m Γ.args Γ.below Γ.meth Γ.c H locs ce sl Q (F0 Γ.m pc ls st0) := by
  intro T hT X
  obtain ⟨v, st₀, t, T', L, h0, X', hL, e1, e2, ⟨hv, hP1, hz1, hF⟩, stp⟩ := hr T hT X
  cases hv
  obtain ⟨f1, f2⟩ := hF
  rw [h0] at f1 f2
  obtain ⟨t2, a1, b1⟩ := kk T'.heap (locs ++ L) (by rw [e1]; exact hP1) (by rw [e1]; exact hz1)
    ⟨Nat.le_trans hS.1 (by rw [e1]; exact f1), fun q h1 h2 => by rw [e1, f2 q (Nat.lt_of_lt_of_le h1 hS.1) h2]; exact hS.2.1 q h1 h2, fun q hq => by
      rcases List.mem_append.mp hq with h | h
      · exact hS.2.2 q h
      · exact hL q h⟩ T' rfl X'
  exact ⟨t2, stp t2 a1, b1⟩
def jv_LB (own : String) (idx : Nat) (y : MethodName) (cc : ByteArray) (mL : Nat) (ret : Option FieldType) (n : Nat) : Prop := (Cond.methodLink own idx y ∈ gd_L ∨ ∃ host, Cond.methodLinkNest own idx y host ∈ ns_L) ∧ Cond.initialized y.cls ∈ gd_L ∧ Cond.code y cc mL ret ∈ gd_L ∧ (y.cls ≠ "java/lang/invoke/MethodHandle" ∧ y.cls ≠ "java/lang/invoke/VarHandle" ∧ (parseMethodDescriptor y.desc).map (fun d => d.parameters.length) = some n) ∧ mL ≤ 81
def jv_LV (own : String) (idx : Nat) (y : MethodName) (cc : ByteArray) (mL : Nat) (ret : Option FieldType) (n : Nat) : Prop := jv_LB own idx y cc mL ret n ∧ Cond.instanceMethod y ∈ gd_L ∧ Cond.selects y.cls y y ∈ gd_L
def jv_LS (own : String) (idx : Nat) (y : MethodName) (cc : ByteArray) (mL : Nat) (ret : Option FieldType) (n : Nat) : Prop := jv_LB own idx y cc mL ret n ∧ Cond.static y ∈ gd_L
def jv_LI (own : String) (idx : Nat) (y : MethodName) (cc : ByteArray) (mL : Nat) (n : Nat) : Prop := jv_LB own idx y cc mL none n ∧ y.name = "<init>" ∧ Cond.instanceMethod y ∈ gd_L
theorem jv_pre {H : Heap} {locs : List Loc} {U : State} {av : List Value} (hKW : KW ω Γ.s) (hbs : wz ω ≤ Γ.s.heap.size ∧ ∀ q, q < wz ω → Γ.s.heap[q]? = ω.1[q]?) (hP : va_P ω.2.2.2 cl_L (toW ω M) H) (hz : H.size = wz ω + M.length + k) (hS : va_S (mA ω) Γ.s.heap H locs) (hU : U.heap = H) (hW : Γ.s.WarmedH U.vm) : PC ω k M av (av.map (sh ω)).toArray U := by
  refine ⟨rfl, hKW.warm hW, by rw [hU]; exact hP, by rw [hU]; exact hz, fun q hq => ?_⟩
  rw [hU, hS.2.1 q (Nat.lt_of_lt_of_le hq hbs.1) (Nat.not_le.mpr hq)]
  exact hbs.2 q hq
theorem jv_callV (C : Cx Γ cc nL own ω hh mT sT) {idx a ci n mL h' mc ms : Nat} {y : MethodName} {c' : ByteArray} {ret : Option FieldType} {T : u_T} {N : Nat} {As stk : List Value} {r : Option Value} {M' : Mem} (L : jv_LV own idx y c' mL ret n) (hc : cl_L[ci]? = some (y.cls, T, N)) {u : Unit} (hk : mm_ck M a ci = some u) (d : decode cc pc = .ok (.invokevirtual idx, 3)) (hn : As.length = n) (hst : stk = As.reverse ++ .ref a :: st) (hh1 : h' + 1 ≤ hh) (hce : ce + mc ≤ mT) (hsl : sl + ms ≤ sT) (hcat : (st.map fun v => v.category).sum ≤ 8)
    (ct : CM Γ.2.1 ω k y c' mL ret h' mc ms (.ref a :: As) M r M') (kk : JJ Γ Q nL ω k M' (ce + mc) (sl + ms) (pc + 3) lv (r.toList ++ st)) : JJ Γ Q nL ω k M ce sl pc lv stk := by
  obtain ⟨hx, hb, hml, hown, hts, hKW, hlk, hbs, hR⟩ := C
  obtain ⟨⟨lk, li, lc, ld, lm⟩, l1, l2⟩ := L
  intro H locs ls hl hP hz hS
  obtain ⟨fs, hfs⟩ := mm_ck_spec hk
  have hcat' : ((st.map (sh ω)).map fun v => v.category).sum ≤ 8 := by
    rw [List.map_map]; rw [show (fun v : Value => v.category) ∘ sh ω = (fun v : Value => v.category) from funext (sh_cat ω)]; exact hcat
  have hrm : (rm_ h' mc ms).frames + 1 ≤ Γ.2.2.2.1.frames ∧ 8 + (mL + 11) + (rm_ h' mc ms).locals ≤ Γ.2.2.2.1.locals := by
    obtain ⟨r1, -, -, r4⟩ := hR; exact ⟨Nat.le_trans hh1 r1, by show 8 + (mL + 11) + 100 * h' ≤ _; omega⟩
  have hpre : PreV Γ.s H y.cls (wz ω + a) (PC ω k M (.ref a :: As)) (As.map (sh ω)) := ⟨PC.blind, va_recv hKW.1 hP hc (q0 := a) (toW_at hfs), fun U hU hW => jv_pre (av := .ref a :: As) hKW hbs hP hz hS hU hW⟩
  have hstk : stk.map (sh ω) = (As.map (sh ω)).reverse ++ .ref (wz ω + a) :: st.map (sh ω) := by rw [hst]; simp [sh]
  have hce' : ce + mc ≤ Γ.2.2.2.1.cells ∧ sl + ms ≤ Γ.2.2.2.1.slots := ⟨Nat.le_trans hce hR.2.1, Nat.le_trans hsl hR.2.2.1⟩
  have hfin : ∀ (H1 : Heap) (locs1 : List Loc), va_P ω.2.2.2 cl_L (toW ω M') H1 → H1.size = wz ω + M'.length + k → va_S (mA ω) Γ.s.heap H1 locs1 → W Γ.1 Γ.2.1 Γ.2.2.1 Γ.2.2.2.1 Γ.s Γ.m Γ.args Γ.below Γ.meth Γ.c H1 locs1 (ce + mc) (sl + ms) Q (F0 Γ.m (pc + 3) ls ((r.map (sh ω)).toList ++ st.map (sh ω))) := fun H1 locs1 hP1 hz1 hS1 => by
    have h9 := kk H1 locs1 ls hl hP1 hz1 hS1
    rw [List.map_append, show r.toList.map (sh ω) = (r.map (sh ω)).toList by cases r <;> rfl] at h9
    exact h9
  rcases lk with lk | ⟨host, lk⟩
  · exact jv_back (va_runV (As := As.map (sh ω)) (rest := st.map (sh ω)) (b := wz ω + a) (C := y.cls) (Ts := gd_L) ⟨hx, hb, hml, hown, hts⟩ ct ⟨callB_of n hts (gd_in lc) rfl rfl rfl (hts _ li) (hts _ lk) ld hrm, hts _ l1, hts _ l2⟩ hpre rfl (by rw [List.length_map]; exact hn) hl.1 hstk (lv_room hcat') d hce') hS hfin
  · exact jv_back (va_runVN (As := As.map (sh ω)) (rest := st.map (sh ω)) (b := wz ω + a) (C := y.cls) (Ts := gd_L) ⟨hx, hb, hml, hown, hts⟩ ct ⟨va_cnB n hts (gd_in lc) rfl rfl rfl (hKW.2.1 _ lk) (hts _ li) ld hrm, hts _ l1, hts _ l2⟩ hpre rfl (by rw [List.length_map]; exact hn) hl.1 hstk (lv_room hcat') d hce') hS hfin
theorem jv_callS (C : Cx Γ cc nL own ω hh mT sT) {idx n mL h' mc ms : Nat} {y : MethodName} {c' : ByteArray} {ret : Option FieldType} {As stk : List Value} {r : Option Value} {M' : Mem} (L : jv_LS own idx y c' mL ret n) (d : decode cc pc = .ok (.invokestatic idx, 3)) (hn : As.length = n) (hst : stk = As.reverse ++ st) (hh1 : h' + 1 ≤ hh) (hce : ce + mc ≤ mT) (hsl : sl + ms ≤ sT) (hcat : (st.map fun v => v.category).sum ≤ 8)
    (ct : CM Γ.2.1 ω k y c' mL ret h' mc ms As M r M') (kk : JJ Γ Q nL ω k M' (ce + mc) (sl + ms) (pc + 3) lv (r.toList ++ st)) : JJ Γ Q nL ω k M ce sl pc lv stk := by
  obtain ⟨hx, hb, hml, hown, hts, hKW, hlk, hbs, hR⟩ := C
  obtain ⟨⟨lk, li, lc, ld, lm⟩, l1⟩ := L
  intro H locs ls hl hP hz hS
  have hcat' : ((st.map (sh ω)).map fun v => v.category).sum ≤ 8 := by
    rw [List.map_map]; rw [show (fun v : Value => v.category) ∘ sh ω = (fun v : Value => v.category) from funext (sh_cat ω)]; exact hcat
  have hrm : (rm_ h' mc ms).frames + 1 ≤ Γ.2.2.2.1.frames ∧ 8 + (mL + 11) + (rm_ h' mc ms).locals ≤ Γ.2.2.2.1.locals := by
    obtain ⟨r1, -, -, r4⟩ := hR; exact ⟨Nat.le_trans hh1 r1, by show 8 + (mL + 11) + 100 * h' ≤ _; omega⟩
  have hpre : PreS Γ.s H (PC ω k M As) (As.map (sh ω)) := ⟨PC.blind, fun U hU hW => jv_pre (av := As) hKW hbs hP hz hS hU hW⟩
  have hstk : stk.map (sh ω) = (As.map (sh ω)).reverse ++ st.map (sh ω) := by rw [hst]; simp
  have hce' : ce + mc ≤ Γ.2.2.2.1.cells ∧ sl + ms ≤ Γ.2.2.2.1.slots := ⟨Nat.le_trans hce hR.2.1, Nat.le_trans hsl hR.2.2.1⟩
  have hfin : ∀ (H1 : Heap) (locs1 : List Loc), va_P ω.2.2.2 cl_L (toW ω M') H1 → H1.size = wz ω + M'.length + k → va_S (mA ω) Γ.s.heap H1 locs1 → W Γ.1 Γ.2.1 Γ.2.2.1 Γ.2.2.2.1 Γ.s Γ.m Γ.args Γ.below Γ.meth Γ.c H1 locs1 (ce + mc) (sl + ms) Q (F0 Γ.m (pc + 3) ls ((r.map (sh ω)).toList ++ st.map (sh ω))) := fun H1 locs1 hP1 hz1 hS1 => by
    have h9 := kk H1 locs1 ls hl hP1 hz1 hS1
    rw [List.map_append, show r.toList.map (sh ω) = (r.map (sh ω)).toList by cases r <;> rfl] at h9
    exact h9
  rcases lk with lk | ⟨host, lk⟩
  · exact jv_back (va_runS (As := As.map (sh ω)) (rest := st.map (sh ω)) (Ts := gd_L) ⟨hx, hb, hml, hown, hts⟩ ct ⟨callB_of n hts (gd_in lc) rfl rfl rfl (hts _ li) (hts _ lk) ld hrm, hts _ l1⟩ hpre rfl (by rw [List.length_map]; exact hn) hl.1 hstk (lv_room hcat') d hce') hS hfin
  · exact jv_back (va_runSN (As := As.map (sh ω)) (rest := st.map (sh ω)) (Ts := gd_L) ⟨hx, hb, hml, hown, hts⟩ ct ⟨va_cnB n hts (gd_in lc) rfl rfl rfl (hKW.2.1 _ lk) (hts _ li) ld hrm, hts _ l1, trivial⟩ hpre rfl (by rw [List.length_map]; exact hn) hl.1 hstk (lv_room hcat') d hce') hS hfin
theorem jv_callI (C : Cx Γ cc nL own ω hh mT sT) {idx a n mL h' mc ms : Nat} {y : MethodName} {c' : ByteArray} {As stk : List Value} {M' : Mem} (L : jv_LI own idx y c' mL n) (d : decode cc pc = .ok (.invokespecial idx, 3)) (hn : As.length = n) (hst : stk = As.reverse ++ .ref a :: st) (hh1 : h' + 1 ≤ hh) (hce : ce + mc ≤ mT) (hsl : sl + ms ≤ sT) (hcat : (st.map fun v => v.category).sum ≤ 8)
    (ct : CM Γ.2.1 ω k y c' mL none h' mc ms (.ref a :: As) M none M') (kk : JJ Γ Q nL ω k M' (ce + mc) (sl + ms) (pc + 3) lv st) : JJ Γ Q nL ω k M ce sl pc lv stk := by
  obtain ⟨hx, hb, hml, hown, hts, hKW, hlk, hbs, hR⟩ := C
  obtain ⟨⟨lk, li, lc, ld, lm⟩, l1, l2⟩ := L
  intro H locs ls hl hP hz hS
  have hcat' : ((st.map (sh ω)).map fun v => v.category).sum ≤ 8 := by
    rw [List.map_map]; rw [show (fun v : Value => v.category) ∘ sh ω = (fun v : Value => v.category) from funext (sh_cat ω)]; exact hcat
  have hrm : (rm_ h' mc ms).frames + 1 ≤ Γ.2.2.2.1.frames ∧ 8 + (mL + 11) + (rm_ h' mc ms).locals ≤ Γ.2.2.2.1.locals := by
    obtain ⟨r1, -, -, r4⟩ := hR; exact ⟨Nat.le_trans hh1 r1, by show 8 + (mL + 11) + 100 * h' ≤ _; omega⟩
  have hpre : PreS Γ.s H (PC ω k M (.ref a :: As)) (.ref (wz ω + a) :: As.map (sh ω)) := ⟨PC.blind, fun U hU hW => jv_pre (av := .ref a :: As) hKW hbs hP hz hS hU hW⟩
  have hstk : stk.map (sh ω) = (As.map (sh ω)).reverse ++ .ref (wz ω + a) :: st.map (sh ω) := by rw [hst]; simp [sh]
  have hce' : ce + mc ≤ Γ.2.2.2.1.cells ∧ sl + ms ≤ Γ.2.2.2.1.slots := ⟨Nat.le_trans hce hR.2.1, Nat.le_trans hsl hR.2.2.1⟩
  have hfin : ∀ (H1 : Heap) (locs1 : List Loc), va_P ω.2.2.2 cl_L (toW ω M') H1 → H1.size = wz ω + M'.length + k → va_S (mA ω) Γ.s.heap H1 locs1 → W Γ.1 Γ.2.1 Γ.2.2.1 Γ.2.2.2.1 Γ.s Γ.m Γ.args Γ.below Γ.meth Γ.c H1 locs1 (ce + mc) (sl + ms) Q (F0 Γ.m (pc + 3) ls (((none : Option Value).map (sh ω)).toList ++ st.map (sh ω))) := fun H1 locs1 hP1 hz1 hS1 => kk H1 locs1 ls hl hP1 hz1 hS1
  rcases lk with lk | ⟨host, lk⟩
  · exact jv_back (va_runI (As := As.map (sh ω)) (rest := st.map (sh ω)) (b := wz ω + a) (Ts := gd_L) ⟨hx, hb, hml, hown, hts⟩ ct ⟨callB_of n hts (gd_in lc) rfl rfl rfl (hts _ li) (hts _ lk) ld hrm, l1, hts _ l2⟩ hpre rfl (by rw [List.length_map]; exact hn) hl.1 hstk (lv_room hcat') d hce') hS hfin
  · exact jv_back (va_runIN (As := As.map (sh ω)) (rest := st.map (sh ω)) (b := wz ω + a) (Ts := gd_L) ⟨hx, hb, hml, hown, hts⟩ ct ⟨va_cnB n hts (gd_in lc) rfl rfl rfl (hKW.2.1 _ lk) (hts _ li) ld hrm, l1, hts _ l2⟩ hpre rfl (by rw [List.length_map]; exact hn) hl.1 hstk (lv_room hcat') d hce') hS hfin
end JV
/-- a method's contract out of its walk -/
theorem CM.of {l : Launch} {ω : Wd} {k : Nat} {y : MethodName} {cc : ByteArray} {mL : Nat} {ret : Option FieldType} {h mc ms : Nat} {av : List Value} {M M' : Mem} {r : Option Value} (hy : plainName y.cls = true) (hlen : (lg_sl av).length ≤ mL)
    (body : ∀ Γ : Gm, Γ.2.1 = l → Cx Γ cc mL y.cls ω h mc ms → Γ.meth.sig.returnType = ret → Γ.meth.name = y.name → JJ Γ (QF Γ ω k mc ms r M') mL ω k M 0 0 0 (lv_args 0 av) []) : CM l ω k y cc mL ret h mc ms av M r M' := by
  refine Met.ofW (cc := cc) (maxL := mL) (ret := ret) hy rfl ?_
  intro p e s m args below meth c s₁ B hml hv
  obtain ⟨rfl, hKW, hP, hz, hb0⟩ := hv
  have hts := atoms_spec (ws := Cond.code y cc mL ret :: gd_L) B.pre
  have hC : Cx (p, l, e, rm_ h mc ms, s, m, (av.map (sh ω)).toArray, below, meth, c) cc mL y.cls ω h mc ms := ⟨B.exec, B.bytes, hml, findClass_of_methodNamed B.named, fun w hw => hts w (List.mem_cons_of_mem _ hw), hKW, B.notSynchronized, ⟨by show wz ω ≤ s.heap.size; omega, hb0⟩, ⟨Nat.le_refl _, Nat.le_refl _, Nat.le_refl _, Nat.le_refl _⟩⟩
  have hb1 := body (p, l, e, rm_ h mc ms, s, m, (av.map (sh ω)).toArray, below, meth, c) rfl hC B.returns (name_of_methodNamed B.named B.method).1
  have hsl : (lg_sl (av.map (sh ω))).length = (lg_sl av).length := by
    clear hb1 hC hts hP hz hb0 hKW B hml body hlen
    induction av with
    | nil => rfl
    | cons v vs ih =>
      simp only [lg_sl, List.map_cons, List.flatMap_cons, List.length_append, sh_cat] at ih ⊢
      rw [ih]
      congr 1
      split <;> rfl
  have hl := lv_entry (av.map (sh ω)) (n := mL) (by rw [hsl]; exact hlen)
  rw [shL_args] at hl
  rw [lg_entry_eq]
  exact hb1 s.heap [] _ hl hP hz va_S.rf
