theorem gn_290 : Cond.castable "java/lang/IllegalArgumentException" "java/lang/IllegalArgumentException" ∈ ns_L := ns_at 290 (by decide +kernel) (by decide +kernel)
theorem gn_1289 : Cond.castable "java/lang/IndexOutOfBoundsException" "java/lang/IndexOutOfBoundsException" ∈ ns_L := ns_at 1289 (by decide +kernel) (by decide +kernel)
theorem gn_1324 : Cond.castable "java/lang/IllegalStateException" "java/lang/IllegalStateException" ∈ ns_L := ns_at 1324 (by decide +kernel) (by decide +kernel)
theorem gw_1281 : Cond.classLink "CoinSorterLaw" 13 "java/lang/IndexOutOfBoundsException" ∈ gd_L := gd_at 1281 (by decide +kernel) (by decide +kernel)
theorem gw_1282 : Cond.classLink "CoinSorterLaw" 15 "java/lang/IllegalArgumentException" ∈ gd_L := gd_at 1282 (by decide +kernel) (by decide +kernel)
theorem gw_1283 : Cond.methodLink "CoinSorterLaw" 7 ⟨"CoinSorter", "score", "(III)I"⟩ ∈ gd_L := gd_at 1283 (by decide +kernel) (by decide +kernel)
theorem gw_1284 : Cond.instanceMethod ⟨"CoinSorter", "score", "(III)I"⟩ ∈ gd_L := gd_at 1284 (by decide +kernel) (by decide +kernel)
theorem gw_1285 : Cond.selects "CoinSorter" ⟨"CoinSorter", "score", "(III)I"⟩ ⟨"CoinSorter", "score", "(III)I"⟩ ∈ gd_L := gd_at 1285 (by decide +kernel) (by decide +kernel)
theorem gw_1286 : Cond.code ⟨"CoinSorter", "score", "(III)I"⟩ prog_1_method_12_code 5 (some .int) ∈ gd_L := gd_at 1286 (by decide +kernel) (by decide +kernel)
theorem gw_1308 : Cond.methodLink "CoinSorterLaw" 17 ⟨"CoinSorter", "classify", "(II)I"⟩ ∈ gd_L := gd_at 1308 (by decide +kernel) (by decide +kernel)
theorem gw_1309 : Cond.instanceMethod ⟨"CoinSorter", "classify", "(II)I"⟩ ∈ gd_L := gd_at 1309 (by decide +kernel) (by decide +kernel)
theorem gw_1310 : Cond.selects "CoinSorter" ⟨"CoinSorter", "classify", "(II)I"⟩ ⟨"CoinSorter", "classify", "(II)I"⟩ ∈ gd_L := gd_at 1310 (by decide +kernel) (by decide +kernel)
theorem gw_1311 : Cond.code ⟨"CoinSorter", "classify", "(II)I"⟩ prog_1_method_13_code 3 (some .int) ∈ gd_L := gd_at 1311 (by decide +kernel) (by decide +kernel)
theorem gw_1315 : Cond.classLink "CoinSorterLaw" 24 "java/lang/IllegalStateException" ∈ gd_L := gd_at 1315 (by decide +kernel) (by decide +kernel)
theorem gw_1316 : Cond.methodLink "CoinSorterLaw" 21 ⟨"CoinSorter", "audit", "(II)I"⟩ ∈ gd_L := gd_at 1316 (by decide +kernel) (by decide +kernel)
theorem gw_1317 : Cond.instanceMethod ⟨"CoinSorter", "audit", "(II)I"⟩ ∈ gd_L := gd_at 1317 (by decide +kernel) (by decide +kernel)
theorem gw_1318 : Cond.selects "CoinSorter" ⟨"CoinSorter", "audit", "(II)I"⟩ ⟨"CoinSorter", "audit", "(II)I"⟩ ∈ gd_L := gd_at 1318 (by decide +kernel) (by decide +kernel)
theorem gw_1319 : Cond.code ⟨"CoinSorter", "audit", "(II)I"⟩ prog_1_method_62_code 3 (some .int) ∈ gd_L := gd_at 1319 (by decide +kernel) (by decide +kernel)
theorem dL_score_0 : decode cL_score 0 = .ok (.aload 4, 2) := by decide +kernel
theorem dL_score_2 : decode cL_score 2 = .ok (.iconst 0, 1) := by decide +kernel
theorem dL_score_3 : decode cL_score 3 = .ok (.aload_n 0, 1) := by decide +kernel
theorem dL_score_4 : decode cL_score 4 = .ok (.iload_n 1, 1) := by decide +kernel
theorem dL_score_5 : decode cL_score 5 = .ok (.iload_n 2, 1) := by decide +kernel
theorem dL_score_6 : decode cL_score 6 = .ok (.iload_n 3, 1) := by decide +kernel
theorem dL_score_7 : decode cL_score 7 = .ok (.invokevirtual 7, 3) := by decide +kernel
theorem dL_score_10 : decode cL_score 10 = .ok (.i2l, 1) := by decide +kernel
theorem dL_score_11 : decode cL_score 11 = .ok (.lastore, 1) := by decide +kernel
theorem dL_score_12 : decode cL_score 12 = .ok (.goto 11, 3) := by decide +kernel
theorem dL_score_15 : decode cL_score 15 = .ok (.astore 5, 2) := by decide +kernel
theorem dL_score_17 : decode cL_score 17 = .ok (.iconst 1, 1) := by decide +kernel
theorem dL_score_18 : decode cL_score 18 = .ok (.ireturn, 1) := by decide +kernel
theorem dL_score_19 : decode cL_score 19 = .ok (.astore 5, 2) := by decide +kernel
theorem dL_score_21 : decode cL_score 21 = .ok (.iconst 2, 1) := by decide +kernel
theorem dL_score_22 : decode cL_score 22 = .ok (.ireturn, 1) := by decide +kernel
theorem dL_score_23 : decode cL_score 23 = .ok (.iconst 0, 1) := by decide +kernel
theorem dL_score_24 : decode cL_score 24 = .ok (.ireturn, 1) := by decide +kernel
def fn_L_score (N : Nat) (M : Mem) (a0 : Nat) (x1 : Int32) (x2 : Int32) (x3 : Int32) (a4 : Nat) : Option (Int32 × Mem) :=
  (mm_ck M a0 9).bind fun _ => match fn_X9_score N M a0 x1 x2 x3 with
  | some q => (mm_sL q.2 a4 0 q.1.toInt64).bind fun M2 => some (0, M2)
  | none => match fn_X9_scoreT N M a0 x1 x2 x3 with
    | some q => if q.1 = 1 then some (1, q.2) else if q.1 = 2 then some (2, q.2) else none
    | none => none
theorem lk_L_7 : jv_LV RL 7 yX9_score cX9_score 5 (some .int) 3 := ⟨⟨Or.inl gw_1283, gw_93, gw_1286, ⟨by decide, by decide, by decide⟩, by decide⟩, gw_1284, gw_1285⟩
set_option maxRecDepth 100000 in
set_option maxHeartbeats 4000000 in
theorem ck_L_score {l : Launch} (hst : l.stackTraces = false) {ω : Wd} {k N : Nat} {M : Mem} {a0 : Nat} {x1 : Int32} {x2 : Int32} {x3 : Int32} {a4 : Nat} {r : Int32} {M' : Mem} (h : fn_L_score N M a0 x1 x2 x3 a4 = some (r, M')) : CK l ω k yL_score cL_score 6 (some .int) [(0, 12, 15, 13), (0, 12, 19, 15)] 7 [.ref a0, .int x1, .int x2, .int x3, .ref a4] M (some (.int r)) M' := by
  refine CK.of (by decide) (Nat.le_of_ble_eq_true rfl) fun Γ hl C hr htab => ?_
  subst hl
  refine jv_aload C dL_score_0 4 rfl ?_
  refine jv_iconst (v := 0) C dL_score_2 (by decide) ?_
  refine jv_aload_n C dL_score_3 rfl 0 rfl ?_
  refine jv_iload_n C dL_score_4 rfl 1 rfl ?_
  refine jv_iload_n C dL_score_5 rfl 2 rfl ?_
  refine jv_iload_n C dL_score_6 rfl 3 rfl ?_
  unfold fn_L_score at h
  obtain ⟨u, hu, h⟩ := Option.bind_eq_some_iff.mp h
  cases hf : fn_X9_score N M a0 x1 x2 x3 with
  | some q =>
    rw [hf] at h
    obtain ⟨v, M1⟩ := q
    refine jv_callV (ce := 0) (sl := 0) (mc := 0) (ms := 0) (As := [.int x1, .int x2, .int x3]) C lk_L_7 rfl hu dL_score_7 rfl rfl (by decide) (by decide) (by decide) (Nat.le_of_ble_eq_true rfl) (ct_X9_score hf) ?_
    refine jv_i2l C dL_score_10 ?_
    refine jv_last C dL_score_11 h (fun M2 h => ?_)
    refine jv_goto (tgt := 23) C dL_score_12 (by decide) ?_
    refine jv_iconst (v := 0) C dL_score_23 (by decide) ?_
    cases h
    exact jv_kret C hr (by decide) (by decide) dL_score_24
  | none =>
    rw [hf] at h
    cases hg : fn_X9_scoreT N M a0 x1 x2 x3 with
    | none => rw [hg] at h; cases h
    | some q =>
      rw [hg] at h
      obtain ⟨c, M1⟩ := q
      dsimp only at h
      split at h
      · rename_i hc
        subst hc
        cases h
        refine jv_caught (ce := 0) (sl := 0) (E := "java/lang/IndexOutOfBoundsException") (nm := "java/lang/IndexOutOfBoundsException") (As := [.int x1, .int x2, .int x3]) C lk_L_7 gw_1283 rfl hu dL_score_7 rfl rfl (by decide) (by decide) (by decide) (Nat.le_of_ble_eq_true rfl) (tt_X9_score hst hg) [] ⟨0, 12, 15, 13⟩ [⟨0, 12, 19, 15⟩] (htab.trans rfl) (fun z hz => nomatch hz) (by decide) (by decide) gw_1281 gn_1289 dL_score_15 (by decide) rfl (fun k2 => ?_)
        refine jv_iconst (v := 1) C dL_score_17 (by decide) ?_
        exact jv_kret C hr (by decide) (by decide) dL_score_18
      · split at h
        · rename_i hc
          subst hc
          cases h
          refine jv_caught (ce := 0) (sl := 0) (E := "java/lang/IllegalArgumentException") (nm := "java/lang/IllegalArgumentException") (As := [.int x1, .int x2, .int x3]) C lk_L_7 gw_1283 rfl hu dL_score_7 rfl rfl (by decide) (by decide) (by decide) (Nat.le_of_ble_eq_true rfl) (tt_X9_score hst hg) [⟨0, 12, 15, 13⟩] ⟨0, 12, 19, 15⟩ [] (htab.trans rfl) (List.forall_mem_cons.mpr ⟨Or.inr ⟨by decide, _, gw_1281, C.2.2.2.2.2.1.2.2.2.2.2.2.2.2.2.1⟩, fun _ h => nomatch h⟩) (by decide) (by decide) gw_1282 gn_290 dL_score_19 (by decide) rfl (fun k2 => ?_)
          refine jv_iconst (v := 2) C dL_score_21 (by decide) ?_
          exact jv_kret C hr (by decide) (by decide) dL_score_22
        · cases h
theorem dL_classify_0 : decode cL_classify 0 = .ok (.aload_n 3, 1) := by decide +kernel
theorem dL_classify_1 : decode cL_classify 1 = .ok (.iconst 0, 1) := by decide +kernel
theorem dL_classify_2 : decode cL_classify 2 = .ok (.aload_n 0, 1) := by decide +kernel
theorem dL_classify_3 : decode cL_classify 3 = .ok (.iload_n 1, 1) := by decide +kernel
theorem dL_classify_4 : decode cL_classify 4 = .ok (.iload_n 2, 1) := by decide +kernel
theorem dL_classify_5 : decode cL_classify 5 = .ok (.invokevirtual 17, 3) := by decide +kernel
theorem dL_classify_8 : decode cL_classify 8 = .ok (.i2l, 1) := by decide +kernel
theorem dL_classify_9 : decode cL_classify 9 = .ok (.lastore, 1) := by decide +kernel
theorem dL_classify_10 : decode cL_classify 10 = .ok (.goto 7, 3) := by decide +kernel
theorem dL_classify_13 : decode cL_classify 13 = .ok (.astore 4, 2) := by decide +kernel
theorem dL_classify_15 : decode cL_classify 15 = .ok (.iconst 1, 1) := by decide +kernel
theorem dL_classify_16 : decode cL_classify 16 = .ok (.ireturn, 1) := by decide +kernel
theorem dL_classify_17 : decode cL_classify 17 = .ok (.iconst 0, 1) := by decide +kernel
theorem dL_classify_18 : decode cL_classify 18 = .ok (.ireturn, 1) := by decide +kernel
def fn_L_classify (N : Nat) (M : Mem) (a0 : Nat) (x1 : Int32) (x2 : Int32) (a3 : Nat) : Option (Int32 × Mem) :=
  (mm_ck M a0 9).bind fun _ => match fn_X9_classify N M a0 x1 x2 with
  | some q => (mm_sL q.2 a3 0 q.1.toInt64).bind fun M2 => some (0, M2)
  | none => match fn_X9_classifyT N M a0 x1 x2 with
    | some q => if q.1 = 2 then some (1, q.2) else none
    | none => none
theorem lk_L_17 : jv_LV RL 17 yX9_classify cX9_classify 3 (some .int) 2 := ⟨⟨Or.inl gw_1308, gw_93, gw_1311, ⟨by decide, by decide, by decide⟩, by decide⟩, gw_1309, gw_1310⟩
set_option maxRecDepth 100000 in
set_option maxHeartbeats 4000000 in
theorem ck_L_classify {l : Launch} (hst : l.stackTraces = false) {ω : Wd} {k N : Nat} {M : Mem} {a0 : Nat} {x1 : Int32} {x2 : Int32} {a3 : Nat} {r : Int32} {M' : Mem} (h : fn_L_classify N M a0 x1 x2 a3 = some (r, M')) : CK l ω k yL_classify cL_classify 5 (some .int) [(0, 10, 13, 15)] 7 [.ref a0, .int x1, .int x2, .ref a3] M (some (.int r)) M' := by
  refine CK.of (by decide) (Nat.le_of_ble_eq_true rfl) fun Γ hl C hr htab => ?_
  subst hl
  refine jv_aload_n C dL_classify_0 rfl 3 rfl ?_
  refine jv_iconst (v := 0) C dL_classify_1 (by decide) ?_
  refine jv_aload_n C dL_classify_2 rfl 0 rfl ?_
  refine jv_iload_n C dL_classify_3 rfl 1 rfl ?_
  refine jv_iload_n C dL_classify_4 rfl 2 rfl ?_
  unfold fn_L_classify at h
  obtain ⟨u, hu, h⟩ := Option.bind_eq_some_iff.mp h
  cases hf : fn_X9_classify N M a0 x1 x2 with
  | some q =>
    rw [hf] at h
    obtain ⟨v, M1⟩ := q
    refine jv_callV (ce := 0) (sl := 0) (mc := 0) (ms := 0) (As := [.int x1, .int x2]) C lk_L_17 rfl hu dL_classify_5 rfl rfl (by decide) (by decide) (by decide) (Nat.le_of_ble_eq_true rfl) (ct_X9_classify hf) ?_
    refine jv_i2l C dL_classify_8 ?_
    refine jv_last C dL_classify_9 h (fun M2 h => ?_)
    refine jv_goto (tgt := 17) C dL_classify_10 (by decide) ?_
    refine jv_iconst (v := 0) C dL_classify_17 (by decide) ?_
    cases h
    exact jv_kret C hr (by decide) (by decide) dL_classify_18
  | none =>
    rw [hf] at h
    cases hg : fn_X9_classifyT N M a0 x1 x2 with
    | none => rw [hg] at h; cases h
    | some q =>
      rw [hg] at h
      obtain ⟨c, M1⟩ := q
      dsimp only at h
      split at h
      · rename_i hc
        subst hc
        cases h
        refine jv_caught (ce := 0) (sl := 0) (E := "java/lang/IllegalArgumentException") (nm := "java/lang/IllegalArgumentException") (As := [.int x1, .int x2]) C lk_L_17 gw_1308 rfl hu dL_classify_5 rfl rfl (by decide) (by decide) (by decide) (Nat.le_of_ble_eq_true rfl) (tt_X9_classify hst hg) [] ⟨0, 10, 13, 15⟩ [] (htab.trans rfl) (fun z hz => nomatch hz) (by decide) (by decide) gw_1282 gn_290 dL_classify_13 (by decide) rfl (fun k2 => ?_)
        refine jv_iconst (v := 1) C dL_classify_15 (by decide) ?_
        exact jv_kret C hr (by decide) (by decide) dL_classify_16
      · cases h
theorem dL_audit_0 : decode cL_audit 0 = .ok (.aload_n 3, 1) := by decide +kernel
theorem dL_audit_1 : decode cL_audit 1 = .ok (.iconst 0, 1) := by decide +kernel
theorem dL_audit_2 : decode cL_audit 2 = .ok (.aload_n 0, 1) := by decide +kernel
theorem dL_audit_3 : decode cL_audit 3 = .ok (.iload_n 1, 1) := by decide +kernel
theorem dL_audit_4 : decode cL_audit 4 = .ok (.iload_n 2, 1) := by decide +kernel
theorem dL_audit_5 : decode cL_audit 5 = .ok (.invokevirtual 21, 3) := by decide +kernel
theorem dL_audit_8 : decode cL_audit 8 = .ok (.i2l, 1) := by decide +kernel
theorem dL_audit_9 : decode cL_audit 9 = .ok (.lastore, 1) := by decide +kernel
theorem dL_audit_10 : decode cL_audit 10 = .ok (.goto 15, 3) := by decide +kernel
theorem dL_audit_13 : decode cL_audit 13 = .ok (.astore 4, 2) := by decide +kernel
theorem dL_audit_15 : decode cL_audit 15 = .ok (.iconst 1, 1) := by decide +kernel
theorem dL_audit_16 : decode cL_audit 16 = .ok (.ireturn, 1) := by decide +kernel
theorem dL_audit_17 : decode cL_audit 17 = .ok (.astore 4, 2) := by decide +kernel
theorem dL_audit_19 : decode cL_audit 19 = .ok (.iconst 2, 1) := by decide +kernel
theorem dL_audit_20 : decode cL_audit 20 = .ok (.ireturn, 1) := by decide +kernel
theorem dL_audit_21 : decode cL_audit 21 = .ok (.astore 4, 2) := by decide +kernel
theorem dL_audit_23 : decode cL_audit 23 = .ok (.iconst 3, 1) := by decide +kernel
theorem dL_audit_24 : decode cL_audit 24 = .ok (.ireturn, 1) := by decide +kernel
theorem dL_audit_25 : decode cL_audit 25 = .ok (.iconst 0, 1) := by decide +kernel
theorem dL_audit_26 : decode cL_audit 26 = .ok (.ireturn, 1) := by decide +kernel
def fn_L_audit (N : Nat) (M : Mem) (a0 : Nat) (x1 : Int32) (x2 : Int32) (a3 : Nat) : Option (Int32 × Mem) :=
  (mm_ck M a0 9).bind fun _ => match fn_X9_audit N M a0 x1 x2 with
  | some q => (mm_sL q.2 a3 0 q.1.toInt64).bind fun M2 => some (0, M2)
  | none => match fn_X9_auditT N M a0 x1 x2 with
    | some q => if q.1 = 1 then some (1, q.2) else if q.1 = 2 then some (2, q.2) else if q.1 = 3 then some (3, q.2) else none
    | none => none
theorem lk_L_21 : jv_LV RL 21 yX9_audit cX9_audit 3 (some .int) 2 := ⟨⟨Or.inl gw_1316, gw_93, gw_1319, ⟨by decide, by decide, by decide⟩, by decide⟩, gw_1317, gw_1318⟩
set_option maxRecDepth 100000 in
set_option maxHeartbeats 4000000 in
theorem ck_L_audit {l : Launch} (hst : l.stackTraces = false) {ω : Wd} {k N : Nat} {M : Mem} {a0 : Nat} {x1 : Int32} {x2 : Int32} {a3 : Nat} {r : Int32} {M' : Mem} (h : fn_L_audit N M a0 x1 x2 a3 = some (r, M')) : CK l ω k yL_audit cL_audit 5 (some .int) [(0, 10, 13, 13), (0, 10, 17, 15), (0, 10, 21, 24)] 7 [.ref a0, .int x1, .int x2, .ref a3] M (some (.int r)) M' := by
  refine CK.of (by decide) (Nat.le_of_ble_eq_true rfl) fun Γ hl C hr htab => ?_
  subst hl
  refine jv_aload_n C dL_audit_0 rfl 3 rfl ?_
  refine jv_iconst (v := 0) C dL_audit_1 (by decide) ?_
  refine jv_aload_n C dL_audit_2 rfl 0 rfl ?_
  refine jv_iload_n C dL_audit_3 rfl 1 rfl ?_
  refine jv_iload_n C dL_audit_4 rfl 2 rfl ?_
  unfold fn_L_audit at h
  obtain ⟨u, hu, h⟩ := Option.bind_eq_some_iff.mp h
  cases hf : fn_X9_audit N M a0 x1 x2 with
  | some q =>
    rw [hf] at h
    obtain ⟨v, M1⟩ := q
    refine jv_callV (ce := 0) (sl := 0) (mc := 0) (ms := 0) (As := [.int x1, .int x2]) C lk_L_21 rfl hu dL_audit_5 rfl rfl (by decide) (by decide) (by decide) (Nat.le_of_ble_eq_true rfl) (ct_X9_audit hf) ?_
    refine jv_i2l C dL_audit_8 ?_
    refine jv_last C dL_audit_9 h (fun M2 h => ?_)
    refine jv_goto (tgt := 25) C dL_audit_10 (by decide) ?_
    refine jv_iconst (v := 0) C dL_audit_25 (by decide) ?_
    cases h
    exact jv_kret C hr (by decide) (by decide) dL_audit_26
  | none =>
    rw [hf] at h
    cases hg : fn_X9_auditT N M a0 x1 x2 with
    | none => rw [hg] at h; cases h
    | some q =>
      rw [hg] at h
      obtain ⟨c, M1⟩ := q
      dsimp only at h
      split at h
      · rename_i hc
        subst hc
        cases h
        refine jv_caught (ce := 0) (sl := 0) (E := "java/lang/IndexOutOfBoundsException") (nm := "java/lang/IndexOutOfBoundsException") (As := [.int x1, .int x2]) C lk_L_21 gw_1316 rfl hu dL_audit_5 rfl rfl (by decide) (by decide) (by decide) (Nat.le_of_ble_eq_true rfl) (tt_X9_audit hst hg) [] ⟨0, 10, 13, 13⟩ [⟨0, 10, 17, 15⟩, ⟨0, 10, 21, 24⟩] (htab.trans rfl) (fun z hz => nomatch hz) (by decide) (by decide) gw_1281 gn_1289 dL_audit_13 (by decide) rfl (fun k2 => ?_)
        refine jv_iconst (v := 1) C dL_audit_15 (by decide) ?_
        exact jv_kret C hr (by decide) (by decide) dL_audit_16
      · split at h
        · rename_i hc
          subst hc
          cases h
          refine jv_caught (ce := 0) (sl := 0) (E := "java/lang/IllegalArgumentException") (nm := "java/lang/IllegalArgumentException") (As := [.int x1, .int x2]) C lk_L_21 gw_1316 rfl hu dL_audit_5 rfl rfl (by decide) (by decide) (by decide) (Nat.le_of_ble_eq_true rfl) (tt_X9_audit hst hg) [⟨0, 10, 13, 13⟩] ⟨0, 10, 17, 15⟩ [⟨0, 10, 21, 24⟩] (htab.trans rfl) (List.forall_mem_cons.mpr ⟨Or.inr ⟨by decide, _, gw_1281, C.2.2.2.2.2.1.2.2.2.2.2.2.2.2.2.1⟩, fun _ h => nomatch h⟩) (by decide) (by decide) gw_1282 gn_290 dL_audit_17 (by decide) rfl (fun k2 => ?_)
          refine jv_iconst (v := 2) C dL_audit_19 (by decide) ?_
          exact jv_kret C hr (by decide) (by decide) dL_audit_20
        · split at h
          · rename_i hc
            subst hc
            cases h
            refine jv_caught (ce := 0) (sl := 0) (E := "java/lang/IllegalStateException") (nm := "java/lang/IllegalStateException") (As := [.int x1, .int x2]) C lk_L_21 gw_1316 rfl hu dL_audit_5 rfl rfl (by decide) (by decide) (by decide) (Nat.le_of_ble_eq_true rfl) (tt_X9_audit hst hg) [⟨0, 10, 13, 13⟩, ⟨0, 10, 17, 15⟩] ⟨0, 10, 21, 24⟩ [] (htab.trans rfl) (List.forall_mem_cons.mpr ⟨Or.inr ⟨by decide, _, gw_1281, C.2.2.2.2.2.1.2.2.2.2.2.2.2.2.2.2.1⟩, List.forall_mem_cons.mpr ⟨Or.inr ⟨by decide, _, gw_1282, C.2.2.2.2.2.1.2.2.2.2.2.2.2.2.2.2.2⟩, fun _ h => nomatch h⟩⟩) (by decide) (by decide) gw_1315 gn_1324 dL_audit_21 (by decide) rfl (fun k2 => ?_)
            refine jv_iconst (v := 3) C dL_audit_23 (by decide) ?_
            exact jv_kret C hr (by decide) (by decide) dL_audit_24
          · cases h
