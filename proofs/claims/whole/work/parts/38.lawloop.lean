theorem gw_123 : Cond.classLink "CoinSorterLaw" 8 "CoinSorter" ∈ gd_L := gd_at 123 (by decide +kernel) (by decide +kernel)
theorem gw_124 : Cond.instantiable "CoinSorter" 12 ∈ gd_L := gd_at 124 (by decide +kernel) (by decide +kernel)
theorem gw_1342 : Cond.classLink "CoinSorterLaw" 27 "CoinSorterModel" ∈ gd_L := gd_at 1342 (by decide +kernel) (by decide +kernel)
theorem gw_1343 : Cond.instantiable "CoinSorterModel" 29 ∈ gd_L := gd_at 1343 (by decide +kernel) (by decide +kernel)
theorem gw_125 : Cond.methodLink "CoinSorterLaw" 26 ⟨"CoinSorter", "<init>", "()V"⟩ ∈ gd_L := gd_at 125 (by decide +kernel) (by decide +kernel)
theorem gw_127 : Cond.code ⟨"CoinSorter", "<init>", "()V"⟩ prog_1_method_1_code 2 none ∈ gd_L := gd_at 127 (by decide +kernel) (by decide +kernel)
theorem gw_126 : Cond.instanceMethod ⟨"CoinSorter", "<init>", "()V"⟩ ∈ gd_L := gd_at 126 (by decide +kernel) (by decide +kernel)
theorem lk_L_26 : jv_LI RL 26 yX9_init cX9_init 2 0 := ⟨⟨Or.inl gw_125, gw_93, gw_127, ⟨by decide, by decide, by decide⟩, by decide⟩, rfl, gw_126⟩
theorem gw_1344 : Cond.methodLink "CoinSorterLaw" 29 ⟨"CoinSorterModel", "<init>", "()V"⟩ ∈ gd_L := gd_at 1344 (by decide +kernel) (by decide +kernel)
theorem gw_1346 : Cond.code ⟨"CoinSorterModel", "<init>", "()V"⟩ prog_12_method_1_code 1 none ∈ gd_L := gd_at 1346 (by decide +kernel) (by decide +kernel)
theorem gw_1345 : Cond.instanceMethod ⟨"CoinSorterModel", "<init>", "()V"⟩ ∈ gd_L := gd_at 1345 (by decide +kernel) (by decide +kernel)
theorem lk_L_29 : jv_LI RL 29 yX10_init cX10_init 1 0 := ⟨⟨Or.inl gw_1344, gw_121, gw_1346, ⟨by decide, by decide, by decide⟩, by decide⟩, rfl, gw_1345⟩
theorem nd_X9 (ω : Wd) : ∀ j, j < 12 → defaultValue (tyX9 j) = vp_V (([.null, .int 0, .null, .null, .null, .null, .null, .null, .null, .null, .null, .null] : List Value).map (sh ω)) j := by
  intro j hj
  rcases (show j = 0 ∨ j = 1 ∨ j = 2 ∨ j = 3 ∨ j = 4 ∨ j = 5 ∨ j = 6 ∨ j = 7 ∨ j = 8 ∨ j = 9 ∨ j = 10 ∨ j = 11 by omega) with rfl | rfl | rfl | rfl | rfl | rfl | rfl | rfl | rfl | rfl | rfl | rfl <;> rfl
theorem nd_X10 (ω : Wd) : ∀ j, j < 29 → defaultValue (tyX10 j) = vp_V (([.int 0, .null, .int 0, .int 0, .int 0, .int 0, .int 0, .int 0, .int 0, .int 0, .null, .null, .null, .null, .null, .int 0, .null, .null, .int 0, .null, .null, .int 0, .int 0, .int 0, .int 0, .null, .null, .null, .null] : List Value).map (sh ω)) j := by
  intro j hj
  rcases (show j = 0 ∨ j = 1 ∨ j = 2 ∨ j = 3 ∨ j = 4 ∨ j = 5 ∨ j = 6 ∨ j = 7 ∨ j = 8 ∨ j = 9 ∨ j = 10 ∨ j = 11 ∨ j = 12 ∨ j = 13 ∨ j = 14 ∨ j = 15 ∨ j = 16 ∨ j = 17 ∨ j = 18 ∨ j = 19 ∨ j = 20 ∨ j = 21 ∨ j = 22 ∨ j = 23 ∨ j = 24 ∨ j = 25 ∨ j = 26 ∨ j = 27 ∨ j = 28 by omega) with rfl | rfl | rfl | rfl | rfl | rfl | rfl | rfl | rfl | rfl | rfl | rfl | rfl | rfl | rfl | rfl | rfl | rfl | rfl | rfl | rfl | rfl | rfl | rfl | rfl | rfl | rfl | rfl | rfl <;> rfl
def fn_law_init (N : Nat) : Option (Nat × Nat × Nat × Mem) :=
  mm_nm ([] : Mem).length (([] : Mem) ++ [.inr (9, [.null, .int 0, .null, .null, .null, .null, .null, .null, .null, .null, .null, .null])]) fun b1 M2 =>
  mm_b2 (fn_X9_init N M2 b1) fun _ M3 =>
  mm_nm M3.length (M3 ++ [.inr (10, [.int 0, .null, .int 0, .int 0, .int 0, .int 0, .int 0, .int 0, .int 0, .int 0, .null, .null, .null, .null, .null, .int 0, .null, .null, .int 0, .null, .null, .int 0, .int 0, .int 0, .int 0, .null, .null, .null, .null])]) fun b4 M5 =>
  mm_b2 (fn_X10_init N M5 b4) fun _ M6 =>
  mm_b2 (mm_nA M6 1 1 (fun N => .inl (1, N, .inr (.inl (fun _ => 0))))) fun b7 M8 =>
  some (b1, b4, b7, M8)
set_option maxRecDepth 100000 in
set_option maxHeartbeats 4000000 in
theorem bk_law_init {Γ : Gm} {ω : Wd} {Q : State → Prop} {N : Nat} (C : Cx Γ cL_law 7 RL ω 840 601024 7293034) {a1 a2 a3 : Nat} {M : Mem} (h : fn_law_init N = some (a1, a2, a3, M)) (kk : JJ Γ Q 7 ω 0 M 405 71302 23 [(0, .float 300), (1, .ref a1), (2, .ref a2), (3, .ref a3), (4, .int 0)] []) : JJ Γ Q 7 ω 0 [] 0 0 0 [(0, .float 300)] [] := by
  unfold fn_law_init at h
  refine jv_new (ci := 9) (fs := [.null, .int 0, .null, .null, .null, .null, .null, .null, .null, .null, .null, .null]) (tf := tyX9) C rfl uw_X9 tyX9_ok gw_123 gw_124 gw_93 (fun j hj => nd_X9 ω j hj) (by decide) (by decide) dL_law_0 ?_
  refine jv_name h (fun b1 M2 h => ?_)
  refine jv_dup C dL_law_3 rfl ?_
  refine jv_iV (As := []) C lk_L_26 dL_law_4 rfl rfl (by decide) (by decide) (by decide) (Nat.le_of_ble_eq_true rfl) h (fun _ _ h => ct_X9_init h) (fun _ M3 h => ?_)
  refine jv_astore_n (lv' := [(1, .ref b1), (0, .float 300)]) C dL_law_7 rfl (by decide) rfl ?_
  refine jv_new (ci := 10) (fs := [.int 0, .null, .int 0, .int 0, .int 0, .int 0, .int 0, .int 0, .int 0, .int 0, .null, .null, .null, .null, .null, .int 0, .null, .null, .int 0, .null, .null, .int 0, .int 0, .int 0, .int 0, .null, .null, .null, .null]) (tf := tyX10) C rfl uw_X10 tyX10_ok gw_1342 gw_1343 gw_121 (fun j hj => nd_X10 ω j hj) (by decide) (by decide) dL_law_8 ?_
  refine jv_name h (fun b4 M5 h => ?_)
  refine jv_dup C dL_law_11 rfl ?_
  refine jv_iV (As := []) C lk_L_29 dL_law_12 rfl rfl (by decide) (by decide) (by decide) (Nat.le_of_ble_eq_true rfl) h (fun _ _ h => ct_X10_init h) (fun _ M6 h => ?_)
  refine jv_astore_n (lv' := [(2, .ref b4), (1, .ref b1), (0, .float 300)]) C dL_law_15 rfl (by decide) rfl ?_
  refine jv_iconst (v := 1) C dL_law_16 (by decide) ?_
  refine jv_newa1 (lim := 1) C gw_738 (by decide) (by decide) (by decide) dL_law_17 h (fun b7 M8 h => ?_)
  refine jv_astore_n (lv' := [(3, .ref b7), (2, .ref b4), (1, .ref b1), (0, .float 300)]) C dL_law_19 rfl (by decide) rfl ?_
  refine jv_iconst (v := 0) C dL_law_20 (by decide) ?_
  refine jv_istore (lv' := [(4, .int 0), (3, .ref b7), (2, .ref b4), (1, .ref b1), (0, .float 300)]) C dL_law_21 (by decide) rfl ?_
  cases h
  refine jv_sub [4, 3, 2, 1, 0] rfl ?_
  exact kk
def fn_law_sw (N L : Nat) (xs : Nat → Int32) (M : Mem) (i : Int32) (a1 a2 a3 : Nat) (j : Nat) : Option Mem := match j with
  | 0 => fn_law_0 N L xs M i a1 a2 a3
  | 1 => fn_law_1 N L xs M i a1 a2 a3
  | 2 => fn_law_2 N L xs M i a1 a2 a3
  | 3 => fn_law_3 N L xs M i a1 a2 a3
  | 4 => fn_law_4 N L xs M i a1 a2 a3
  | 5 => fn_law_5 N L xs M i a1 a2 a3
  | 6 => fn_law_6 N L xs M i a1 a2 a3
  | 7 => fn_law_7 N L xs M i a1 a2 a3
  | 8 => fn_law_8 N L xs M i a1 a2 a3
  | 9 => fn_law_9 N L xs M i a1 a2 a3
  | 10 => fn_law_10 N L xs M i a1 a2 a3
  | 11 => fn_law_11 N L xs M i a1 a2 a3
  | 12 => fn_law_12 N L xs M i a1 a2 a3
  | 13 => fn_law_13 N L xs M i a1 a2 a3
  | 14 => fn_law_14 N L xs M i a1 a2 a3
  | 15 => fn_law_15 N L xs M i a1 a2 a3
  | 16 => fn_law_16 N L xs M i a1 a2 a3
  | 17 => fn_law_17 N L xs M i a1 a2 a3
  | 18 => fn_law_18 N L xs M i a1 a2 a3
  | 19 => fn_law_19 N L xs M i a1 a2 a3
  | 20 => fn_law_20 N L xs M i a1 a2 a3
  | 21 => fn_law_21 N L xs M i a1 a2 a3
  | 22 => fn_law_22 N L xs M i a1 a2 a3
  | 23 => fn_law_23 N L xs M i a1 a2 a3
  | 24 => fn_law_24 N L xs M i a1 a2 a3
  | 25 => fn_law_25 N L xs M i a1 a2 a3
  | 26 => fn_law_26 N L xs M i a1 a2 a3
  | 27 => fn_law_27 N L xs M i a1 a2 a3
  | 28 => fn_law_28 N L xs M i a1 a2 a3
  | 29 => fn_law_29 N L xs M i a1 a2 a3
  | 30 => fn_law_30 N L xs M i a1 a2 a3
  | 31 => fn_law_31 N L xs M i a1 a2 a3
  | 32 => fn_law_32 N L xs M i a1 a2 a3
  | 33 => fn_law_33 N L xs M i a1 a2 a3
  | 34 => fn_law_34 N L xs M i a1 a2 a3
  | 35 => fn_law_35 N L xs M i a1 a2 a3
  | 36 => fn_law_36 N L xs M i a1 a2 a3
  | 37 => fn_law_37 N L xs M i a1 a2 a3
  | 38 => fn_law_38 N L xs M i a1 a2 a3
  | 39 => fn_law_39 N L xs M i a1 a2 a3
  | 40 => fn_law_40 N L xs M i a1 a2 a3
  | 41 => fn_law_41 N L xs M i a1 a2 a3
  | 42 => fn_law_42 N L xs M i a1 a2 a3
  | 43 => fn_law_43 N L xs M i a1 a2 a3
  | 44 => fn_law_44 N L xs M i a1 a2 a3
  | 45 => fn_law_45 N L xs M i a1 a2 a3
  | 46 => fn_law_46 N L xs M i a1 a2 a3
  | _ => some M
def fn_law_loop (N L : Nat) (xs : Nat → Int32) (a1 a2 a3 : Nat) : Nat → Mem → Int32 → Option Mem
  | 0, _, _ => none
  | n + 1, M, i => if Int32.ofNat L - 6 < i then some M else (sc_ld L xs i).bind fun v => (fn_law_sw N L xs M i a1 a2 a3 (v &&& 63).toNatClampNeg).bind fun M' => fn_law_loop N L xs a1 a2 a3 n M' (i + 6)
section JT
variable {Γ : Gm} {Q : State → Prop} {nL k : Nat} {ω : Wd} {M : Mem} {ce sl pc : Nat} {lv : List (Nat × Value)} {st : List Value} {cc : ByteArray} {own : String} {hh mT sT : Nat}
theorem jv_tab (C : Cx Γ cc nL own ω hh mT sT) {dflt lo hi : Int} {offs : Array Int} {len : Nat} {x : Int32} {off : Int} {tgt : Nat} (d : decode cc pc = .ok (.tableswitch dflt lo hi offs, len)) (h1 : ¬ x.toInt < lo) (h2 : ¬ hi < x.toInt) (ho : offs[(x.toInt - lo).toNat]? = some off) (ht : (pc : Int) + off = (tgt : Int)) (kk : JJ Γ Q nL ω k M ce sl tgt lv st) : JJ Γ Q nL ω k M ce sl pc lv (.int x :: st) := by
  obtain ⟨hx, hb, -⟩ := C
  intro H locs ls hl hP hz hS
  exact lv_tableIn hx hb d h1 h2 ho ht (kk H locs ls hl hP hz hS)
theorem jv_tabO (C : Cx Γ cc nL own ω hh mT sT) {dflt lo hi : Int} {offs : Array Int} {len : Nat} {x : Int32} {tgt : Nat} (d : decode cc pc = .ok (.tableswitch dflt lo hi offs, len)) (h : x.toInt < lo ∨ hi < x.toInt) (ht : (pc : Int) + dflt = (tgt : Int)) (kk : JJ Γ Q nL ω k M ce sl tgt lv st) : JJ Γ Q nL ω k M ce sl pc lv (.int x :: st) := by
  obtain ⟨hx, hb, -⟩ := C
  intro H locs ls hl hP hz hS
  exact lv_tableOut hx hb d h ht (kk H locs ls hl hP hz hS)
end JT
set_option maxRecDepth 100000 in
set_option maxHeartbeats 4000000 in
theorem bk_law_loop {Γ : Gm} {ω : Wd} {Q : State → Prop} {N L : Nat} {xs : Nat → Int32} (hst : Γ.2.1.stackTraces = false) (C : Cx Γ cL_law 7 RL ω 840 601024 7293034) (SC : Sx Γ ω L xs) {a1 a2 a3 : Nat} (hend : ∀ k M lv, JJ Γ Q 7 ω k M 601024 7293034 1447 lv [.int 1]) {M' : Mem} :
    ∀ (n : Nat) (M : Mem) (i : Int32) (k ce sl : Nat), ce + n ≤ 601024 → sl + 6 * n ≤ 7293034 → fn_law_loop N L xs a1 a2 a3 n M i = some M' → JJ Γ Q 7 ω k M ce sl 23 [(0, .float 300), (1, .ref a1), (2, .ref a2), (3, .ref a3), (4, .int i)] [] := by
  intro n
  induction n with
  | zero => intro M i k ce sl _ _ h; exact jv_no h
  | succ n ih =>
    intro M i k ce sl hce hsl h
    rw [fn_law_loop.eq_2] at h
    refine jv_iload C dL_law_23 4 rfl ?_
    refine jv_sload_n C dL_law_25 rfl 0 rfl ?_
    refine jv_slen C SC dL_law_26 ?_
    refine jv_bipush (v := 6) C dL_law_27 (by decide) ?_
    refine jv_isub C dL_law_29 ?_
    refine jv_icmp_gt (tgt := 1446) C dL_law_30 (by decide) h (fun h => ?_) (fun h => ?_)
    · refine jv_iconst (v := 1) C dL_law_1446 (by decide) ?_
      refine jv_widen (ce' := 601024) (sl' := 7293034) (by omega) (by omega) ?_
      exact hend _ _ _
    refine jv_sload_n C dL_law_33 rfl 0 rfl ?_
    refine jv_iload C dL_law_34 4 rfl ?_
    refine jv_sld C SC dL_law_36 h (fun v h => ?_)
    refine jv_bipush (v := 63) C dL_law_37 (by decide) ?_
    refine jv_iand C dL_law_39 ?_
    obtain ⟨M1, h1, h2⟩ := Option.bind_eq_some_iff.mp h
    have key : ∀ k, JJ Γ Q 7 ω k M1 (ce + 1) (sl + 6) 1440 [(0, .float 300), (1, .ref a1), (2, .ref a2), (3, .ref a3), (4, .int i)] [] := fun k => by
      refine jv_iinc (v := 6) (lv' := [(4, .int (i + 6)), (0, .float 300), (1, .ref a1), (2, .ref a2), (3, .ref a3)]) C dL_law_1440 4 rfl (by decide) (by decide) rfl ?_
      refine jv_goto (tgt := 23) C dL_law_1443 (by decide) ?_
      refine jv_sub [1, 2, 3, 4, 0] rfl ?_
      exact ih M1 _ k _ _ (by omega) (by omega) h2
    obtain ⟨j, hj, e⟩ := pk_andE v (m := 63) 6 (by decide)
    rw [e, nI_clamp (by omega)] at h1
    rw [e]
    clear e h h2
    rcases (show j = 0 ∨ j = 1 ∨ j = 2 ∨ j = 3 ∨ j = 4 ∨ j = 5 ∨ j = 6 ∨ j = 7 ∨ j = 8 ∨ j = 9 ∨ j = 10 ∨ j = 11 ∨ j = 12 ∨ j = 13 ∨ j = 14 ∨ j = 15 ∨ j = 16 ∨ j = 17 ∨ j = 18 ∨ j = 19 ∨ j = 20 ∨ j = 21 ∨ j = 22 ∨ j = 23 ∨ j = 24 ∨ j = 25 ∨ j = 26 ∨ j = 27 ∨ j = 28 ∨ j = 29 ∨ j = 30 ∨ j = 31 ∨ j = 32 ∨ j = 33 ∨ j = 34 ∨ j = 35 ∨ j = 36 ∨ j = 37 ∨ j = 38 ∨ j = 39 ∨ j = 40 ∨ j = 41 ∨ j = 42 ∨ j = 43 ∨ j = 44 ∨ j = 45 ∨ j = 46 ∨ j = 47 ∨ j = 48 ∨ j = 49 ∨ j = 50 ∨ j = 51 ∨ j = 52 ∨ j = 53 ∨ j = 54 ∨ j = 55 ∨ j = 56 ∨ j = 57 ∨ j = 58 ∨ j = 59 ∨ j = 60 ∨ j = 61 ∨ j = 62 ∨ j = 63 by omega) with rfl | rfl | rfl | rfl | rfl | rfl | rfl | rfl | rfl | rfl | rfl | rfl | rfl | rfl | rfl | rfl | rfl | rfl | rfl | rfl | rfl | rfl | rfl | rfl | rfl | rfl | rfl | rfl | rfl | rfl | rfl | rfl | rfl | rfl | rfl | rfl | rfl | rfl | rfl | rfl | rfl | rfl | rfl | rfl | rfl | rfl | rfl | rfl | rfl | rfl | rfl | rfl | rfl | rfl | rfl | rfl | rfl | rfl | rfl | rfl | rfl | rfl | rfl | rfl
    · exact jv_tab (tgt := 244) (off := 204) C dL_law_40 (by decide) (by decide) (by decide) (by decide) (bk_law_0 hst C SC (by omega) (by omega) h1 key)
    · exact jv_tab (tgt := 317) (off := 277) C dL_law_40 (by decide) (by decide) (by decide) (by decide) (bk_law_1 hst C SC (by omega) (by omega) h1 key)
    · exact jv_tab (tgt := 342) (off := 302) C dL_law_40 (by decide) (by decide) (by decide) (by decide) (bk_law_2 hst C SC (by omega) (by omega) h1 key)
    · exact jv_tab (tgt := 355) (off := 315) C dL_law_40 (by decide) (by decide) (by decide) (by decide) (bk_law_3 hst C SC (by omega) (by omega) h1 key)
    · exact jv_tab (tgt := 368) (off := 328) C dL_law_40 (by decide) (by decide) (by decide) (by decide) (bk_law_4 hst C SC (by omega) (by omega) h1 key)
    · exact jv_tab (tgt := 381) (off := 341) C dL_law_40 (by decide) (by decide) (by decide) (by decide) (bk_law_5 hst C SC (by omega) (by omega) h1 key)
    · exact jv_tab (tgt := 406) (off := 366) C dL_law_40 (by decide) (by decide) (by decide) (by decide) (bk_law_6 hst C SC (by omega) (by omega) h1 key)
    · exact jv_tab (tgt := 431) (off := 391) C dL_law_40 (by decide) (by decide) (by decide) (by decide) (bk_law_7 hst C SC (by omega) (by omega) h1 key)
    · exact jv_tab (tgt := 456) (off := 416) C dL_law_40 (by decide) (by decide) (by decide) (by decide) (bk_law_8 hst C SC (by omega) (by omega) h1 key)
    · exact jv_tab (tgt := 536) (off := 496) C dL_law_40 (by decide) (by decide) (by decide) (by decide) (bk_law_9 hst C SC (by omega) (by omega) h1 key)
    · exact jv_tab (tgt := 604) (off := 564) C dL_law_40 (by decide) (by decide) (by decide) (by decide) (bk_law_10 hst C SC (by omega) (by omega) h1 key)
    · exact jv_tab (tgt := 617) (off := 577) C dL_law_40 (by decide) (by decide) (by decide) (by decide) (bk_law_11 hst C SC (by omega) (by omega) h1 key)
    · exact jv_tab (tgt := 630) (off := 590) C dL_law_40 (by decide) (by decide) (by decide) (by decide) (bk_law_12 hst C SC (by omega) (by omega) h1 key)
    · exact jv_tab (tgt := 643) (off := 603) C dL_law_40 (by decide) (by decide) (by decide) (by decide) (bk_law_13 hst C SC (by omega) (by omega) h1 key)
    · exact jv_tab (tgt := 656) (off := 616) C dL_law_40 (by decide) (by decide) (by decide) (by decide) (bk_law_14 hst C SC (by omega) (by omega) h1 key)
    · exact jv_tab (tgt := 669) (off := 629) C dL_law_40 (by decide) (by decide) (by decide) (by decide) (bk_law_15 hst C SC (by omega) (by omega) h1 key)
    · exact jv_tab (tgt := 694) (off := 654) C dL_law_40 (by decide) (by decide) (by decide) (by decide) (bk_law_16 hst C SC (by omega) (by omega) h1 key)
    · exact jv_tab (tgt := 707) (off := 667) C dL_law_40 (by decide) (by decide) (by decide) (by decide) (bk_law_17 hst C SC (by omega) (by omega) h1 key)
    · exact jv_tab (tgt := 720) (off := 680) C dL_law_40 (by decide) (by decide) (by decide) (by decide) (bk_law_18 hst C SC (by omega) (by omega) h1 key)
    · exact jv_tab (tgt := 745) (off := 705) C dL_law_40 (by decide) (by decide) (by decide) (by decide) (bk_law_19 hst C SC (by omega) (by omega) h1 key)
    · exact jv_tab (tgt := 770) (off := 730) C dL_law_40 (by decide) (by decide) (by decide) (by decide) (bk_law_20 hst C SC (by omega) (by omega) h1 key)
    · exact jv_tab (tgt := 795) (off := 755) C dL_law_40 (by decide) (by decide) (by decide) (by decide) (bk_law_21 hst C SC (by omega) (by omega) h1 key)
    · exact jv_tab (tgt := 808) (off := 768) C dL_law_40 (by decide) (by decide) (by decide) (by decide) (bk_law_22 hst C SC (by omega) (by omega) h1 key)
    · exact jv_tab (tgt := 833) (off := 793) C dL_law_40 (by decide) (by decide) (by decide) (by decide) (bk_law_23 hst C SC (by omega) (by omega) h1 key)
    · exact jv_tab (tgt := 846) (off := 806) C dL_law_40 (by decide) (by decide) (by decide) (by decide) (bk_law_24 hst C SC (by omega) (by omega) h1 key)
    · exact jv_tab (tgt := 859) (off := 819) C dL_law_40 (by decide) (by decide) (by decide) (by decide) (bk_law_25 hst C SC (by omega) (by omega) h1 key)
    · exact jv_tab (tgt := 884) (off := 844) C dL_law_40 (by decide) (by decide) (by decide) (by decide) (bk_law_26 hst C SC (by omega) (by omega) h1 key)
    · exact jv_tab (tgt := 909) (off := 869) C dL_law_40 (by decide) (by decide) (by decide) (by decide) (bk_law_27 hst C SC (by omega) (by omega) h1 key)
    · exact jv_tab (tgt := 922) (off := 882) C dL_law_40 (by decide) (by decide) (by decide) (by decide) (bk_law_28 hst C SC (by omega) (by omega) h1 key)
    · exact jv_tab (tgt := 935) (off := 895) C dL_law_40 (by decide) (by decide) (by decide) (by decide) (bk_law_29 hst C SC (by omega) (by omega) h1 key)
    · exact jv_tab (tgt := 960) (off := 920) C dL_law_40 (by decide) (by decide) (by decide) (by decide) (bk_law_30 hst C SC (by omega) (by omega) h1 key)
    · exact jv_tab (tgt := 997) (off := 957) C dL_law_40 (by decide) (by decide) (by decide) (by decide) (bk_law_31 hst C SC (by omega) (by omega) h1 key)
    · exact jv_tab (tgt := 1010) (off := 970) C dL_law_40 (by decide) (by decide) (by decide) (by decide) (bk_law_32 hst C SC (by omega) (by omega) h1 key)
    · exact jv_tab (tgt := 1035) (off := 995) C dL_law_40 (by decide) (by decide) (by decide) (by decide) (bk_law_33 hst C SC (by omega) (by omega) h1 key)
    · exact jv_tab (tgt := 1048) (off := 1008) C dL_law_40 (by decide) (by decide) (by decide) (by decide) (bk_law_34 hst C SC (by omega) (by omega) h1 key)
    · exact jv_tab (tgt := 1097) (off := 1057) C dL_law_40 (by decide) (by decide) (by decide) (by decide) (bk_law_35 hst C SC (by omega) (by omega) h1 key)
    · exact jv_tab (tgt := 1122) (off := 1082) C dL_law_40 (by decide) (by decide) (by decide) (by decide) (bk_law_36 hst C SC (by omega) (by omega) h1 key)
    · exact jv_tab (tgt := 1159) (off := 1119) C dL_law_40 (by decide) (by decide) (by decide) (by decide) (bk_law_37 hst C SC (by omega) (by omega) h1 key)
    · exact jv_tab (tgt := 1172) (off := 1132) C dL_law_40 (by decide) (by decide) (by decide) (by decide) (bk_law_38 hst C SC (by omega) (by omega) h1 key)
    · exact jv_tab (tgt := 1197) (off := 1157) C dL_law_40 (by decide) (by decide) (by decide) (by decide) (bk_law_39 hst C SC (by omega) (by omega) h1 key)
    · exact jv_tab (tgt := 1210) (off := 1170) C dL_law_40 (by decide) (by decide) (by decide) (by decide) (bk_law_40 hst C SC (by omega) (by omega) h1 key)
    · exact jv_tab (tgt := 1235) (off := 1195) C dL_law_40 (by decide) (by decide) (by decide) (by decide) (bk_law_41 hst C SC (by omega) (by omega) h1 key)
    · exact jv_tab (tgt := 1303) (off := 1263) C dL_law_40 (by decide) (by decide) (by decide) (by decide) (bk_law_42 hst C SC (by omega) (by omega) h1 key)
    · exact jv_tab (tgt := 1328) (off := 1288) C dL_law_40 (by decide) (by decide) (by decide) (by decide) (bk_law_43 hst C SC (by omega) (by omega) h1 key)
    · exact jv_tab (tgt := 1377) (off := 1337) C dL_law_40 (by decide) (by decide) (by decide) (by decide) (bk_law_44 hst C SC (by omega) (by omega) h1 key)
    · exact jv_tab (tgt := 1390) (off := 1350) C dL_law_40 (by decide) (by decide) (by decide) (by decide) (bk_law_45 hst C SC (by omega) (by omega) h1 key)
    · exact jv_tab (tgt := 1415) (off := 1375) C dL_law_40 (by decide) (by decide) (by decide) (by decide) (bk_law_46 hst C SC (by omega) (by omega) h1 key)
    · exact jv_tabO (tgt := 1440) C dL_law_40 (by decide) (by decide) (by cases h1; exact jv_widen (ce' := ce + 1) (sl' := sl + 6) (by omega) (by omega) (key _))
    · exact jv_tabO (tgt := 1440) C dL_law_40 (by decide) (by decide) (by cases h1; exact jv_widen (ce' := ce + 1) (sl' := sl + 6) (by omega) (by omega) (key _))
    · exact jv_tabO (tgt := 1440) C dL_law_40 (by decide) (by decide) (by cases h1; exact jv_widen (ce' := ce + 1) (sl' := sl + 6) (by omega) (by omega) (key _))
    · exact jv_tabO (tgt := 1440) C dL_law_40 (by decide) (by decide) (by cases h1; exact jv_widen (ce' := ce + 1) (sl' := sl + 6) (by omega) (by omega) (key _))
    · exact jv_tabO (tgt := 1440) C dL_law_40 (by decide) (by decide) (by cases h1; exact jv_widen (ce' := ce + 1) (sl' := sl + 6) (by omega) (by omega) (key _))
    · exact jv_tabO (tgt := 1440) C dL_law_40 (by decide) (by decide) (by cases h1; exact jv_widen (ce' := ce + 1) (sl' := sl + 6) (by omega) (by omega) (key _))
    · exact jv_tabO (tgt := 1440) C dL_law_40 (by decide) (by decide) (by cases h1; exact jv_widen (ce' := ce + 1) (sl' := sl + 6) (by omega) (by omega) (key _))
    · exact jv_tabO (tgt := 1440) C dL_law_40 (by decide) (by decide) (by cases h1; exact jv_widen (ce' := ce + 1) (sl' := sl + 6) (by omega) (by omega) (key _))
    · exact jv_tabO (tgt := 1440) C dL_law_40 (by decide) (by decide) (by cases h1; exact jv_widen (ce' := ce + 1) (sl' := sl + 6) (by omega) (by omega) (key _))
    · exact jv_tabO (tgt := 1440) C dL_law_40 (by decide) (by decide) (by cases h1; exact jv_widen (ce' := ce + 1) (sl' := sl + 6) (by omega) (by omega) (key _))
    · exact jv_tabO (tgt := 1440) C dL_law_40 (by decide) (by decide) (by cases h1; exact jv_widen (ce' := ce + 1) (sl' := sl + 6) (by omega) (by omega) (key _))
    · exact jv_tabO (tgt := 1440) C dL_law_40 (by decide) (by decide) (by cases h1; exact jv_widen (ce' := ce + 1) (sl' := sl + 6) (by omega) (by omega) (key _))
    · exact jv_tabO (tgt := 1440) C dL_law_40 (by decide) (by decide) (by cases h1; exact jv_widen (ce' := ce + 1) (sl' := sl + 6) (by omega) (by omega) (key _))
    · exact jv_tabO (tgt := 1440) C dL_law_40 (by decide) (by decide) (by cases h1; exact jv_widen (ce' := ce + 1) (sl' := sl + 6) (by omega) (by omega) (key _))
    · exact jv_tabO (tgt := 1440) C dL_law_40 (by decide) (by decide) (by cases h1; exact jv_widen (ce' := ce + 1) (sl' := sl + 6) (by omega) (by omega) (key _))
    · exact jv_tabO (tgt := 1440) C dL_law_40 (by decide) (by decide) (by cases h1; exact jv_widen (ce' := ce + 1) (sl' := sl + 6) (by omega) (by omega) (key _))
    · exact jv_tabO (tgt := 1440) C dL_law_40 (by decide) (by decide) (by cases h1; exact jv_widen (ce' := ce + 1) (sl' := sl + 6) (by omega) (by omega) (key _))
