def fn_law_0 (N L : Nat) (xs : Nat → Int32) (M : Mem) (i : Int32) (a1 a2 a3 : Nat) : Option Mem :=
  (sc_ld L xs (i + 1)).bind fun v1 =>
  (sc_ld L xs (i + 2)).bind fun v2 =>
  (sc_ld L xs (i + 3)).bind fun v3 =>
  (sc_ld L xs (i + 4)).bind fun v4 =>
  (sc_ld L xs (i + 5)).bind fun v5 =>
  (mm_ck M a1 9).bind fun _ => mm_b2 (fn_X9_append N M a1 v1 v2 v3 v4 v5) fun v7 M6 =>
  (sc_ld L xs (i + 1)).bind fun v8 =>
  (sc_ld L xs (i + 2)).bind fun v9 =>
  (sc_ld L xs (i + 3)).bind fun v10 =>
  (sc_ld L xs (i + 4)).bind fun v11 =>
  (sc_ld L xs (i + 5)).bind fun v12 =>
  (mm_ck M6 a2 10).bind fun _ => mm_b2 (fn_X10_append N M6 a2 v8 v9 v10 v11 v12) fun v14 M13 =>
  if v7 = v14 then
    some M13
  else
    none
set_option maxRecDepth 100000 in
set_option maxHeartbeats 4000000 in
theorem bk_law_0 {Γ : Gm} {ω : Wd} {Q : State → Prop} {k N L : Nat} {xs : Nat → Int32} (hst : Γ.2.1.stackTraces = false) (C : Cx Γ cL_law 7 RL ω 840 601024 7293034) (SC : Sx Γ ω L xs) {M M' : Mem} {i : Int32} {a1 a2 a3 ce sl : Nat} (hce : ce + 1 ≤ 601024) (hsl : sl + 6 ≤ 7293034) (h : fn_law_0 N L xs M i a1 a2 a3 = some M') (kk : ∀ k, JJ Γ Q 7 ω k M' (ce + 1) (sl + 6) 1440 [(0, .float 300), (1, .ref a1), (2, .ref a2), (3, .ref a3), (4, .int i)] []) : JJ Γ Q 7 ω k M ce sl 244 [(0, .float 300), (1, .ref a1), (2, .ref a2), (3, .ref a3), (4, .int i)] [] := by
  unfold fn_law_0 at h
  refine jv_aload_n C dL_law_244 rfl 1 rfl ?_
  refine jv_sload_n C dL_law_245 rfl 0 rfl ?_
  refine jv_iload C dL_law_246 4 rfl ?_
  refine jv_iconst (v := 1) C dL_law_248 (by decide) ?_
  refine jv_iadd C dL_law_249 ?_
  refine jv_sld C SC dL_law_250 h (fun v1 h => ?_)
  refine jv_sload_n C dL_law_251 rfl 0 rfl ?_
  refine jv_iload C dL_law_252 4 rfl ?_
  refine jv_iconst (v := 2) C dL_law_254 (by decide) ?_
  refine jv_iadd C dL_law_255 ?_
  refine jv_sld C SC dL_law_256 h (fun v2 h => ?_)
  refine jv_sload_n C dL_law_257 rfl 0 rfl ?_
  refine jv_iload C dL_law_258 4 rfl ?_
  refine jv_iconst (v := 3) C dL_law_260 (by decide) ?_
  refine jv_iadd C dL_law_261 ?_
  refine jv_sld C SC dL_law_262 h (fun v3 h => ?_)
  refine jv_sload_n C dL_law_263 rfl 0 rfl ?_
  refine jv_iload C dL_law_264 4 rfl ?_
  refine jv_iconst (v := 4) C dL_law_266 (by decide) ?_
  refine jv_iadd C dL_law_267 ?_
  refine jv_sld C SC dL_law_268 h (fun v4 h => ?_)
  refine jv_sload_n C dL_law_269 rfl 0 rfl ?_
  refine jv_iload C dL_law_270 4 rfl ?_
  refine jv_iconst (v := 5) C dL_law_272 (by decide) ?_
  refine jv_iadd C dL_law_273 ?_
  refine jv_sld C SC dL_law_274 h (fun v5 h => ?_)
  refine jv_vI0 (As := [.int v1, .int v2, .int v3, .int v4, .int v5]) C lk_L_30 rfl dL_law_275 rfl rfl (by decide) (by omega) (by omega) (Nat.le_of_ble_eq_true rfl) h (fun _ _ h => ct_X9_append h) (fun v7 M6 h => ?_)
  refine jv_aload_n C dL_law_278 rfl 2 rfl ?_
  refine jv_sload_n C dL_law_279 rfl 0 rfl ?_
  refine jv_iload C dL_law_280 4 rfl ?_
  refine jv_iconst (v := 1) C dL_law_282 (by decide) ?_
  refine jv_iadd C dL_law_283 ?_
  refine jv_sld C SC dL_law_284 h (fun v8 h => ?_)
  refine jv_sload_n C dL_law_285 rfl 0 rfl ?_
  refine jv_iload C dL_law_286 4 rfl ?_
  refine jv_iconst (v := 2) C dL_law_288 (by decide) ?_
  refine jv_iadd C dL_law_289 ?_
  refine jv_sld C SC dL_law_290 h (fun v9 h => ?_)
  refine jv_sload_n C dL_law_291 rfl 0 rfl ?_
  refine jv_iload C dL_law_292 4 rfl ?_
  refine jv_iconst (v := 3) C dL_law_294 (by decide) ?_
  refine jv_iadd C dL_law_295 ?_
  refine jv_sld C SC dL_law_296 h (fun v10 h => ?_)
  refine jv_sload_n C dL_law_297 rfl 0 rfl ?_
  refine jv_iload C dL_law_298 4 rfl ?_
  refine jv_iconst (v := 4) C dL_law_300 (by decide) ?_
  refine jv_iadd C dL_law_301 ?_
  refine jv_sld C SC dL_law_302 h (fun v11 h => ?_)
  refine jv_sload_n C dL_law_303 rfl 0 rfl ?_
  refine jv_iload C dL_law_304 4 rfl ?_
  refine jv_iconst (v := 5) C dL_law_306 (by decide) ?_
  refine jv_iadd C dL_law_307 ?_
  refine jv_sld C SC dL_law_308 h (fun v12 h => ?_)
  refine jv_vI0 (As := [.int v8, .int v9, .int v10, .int v11, .int v12]) C lk_L_34 rfl dL_law_309 rfl rfl (by decide) (by omega) (by omega) (Nat.le_of_ble_eq_true rfl) h (fun _ _ h => ct_X10_append h) (fun v14 M13 h => ?_)
  refine jv_icmp_eq (tgt := 1440) C dL_law_312 (by decide) h (fun h => ?_) (fun h => ?_)
  · cases h
    refine jv_widen (ce' := ce + 1) (sl' := sl + 6) (by omega) (by omega) ?_
    exact kk _
  · refine jv_iconst (v := 0) C dL_law_315 (by decide) ?_
    exact jv_no h
def fn_law_1 (N L : Nat) (xs : Nat → Int32) (M : Mem) (i : Int32) (a1 a2 a3 : Nat) : Option Mem :=
  (sc_ld L xs (i + 1)).bind fun v1 =>
  (mm_ck M a1 9).bind fun _ => mm_b2 (fn_X9_parse N M a1 v1) fun v3 M2 =>
  (sc_ld L xs (i + 1)).bind fun v4 =>
  (mm_ck M2 a2 10).bind fun _ => mm_b2 (fn_X10_parse N M2 a2 v4) fun v6 M5 =>
  if v3 = v6 then
    some M5
  else
    none
set_option maxRecDepth 100000 in
set_option maxHeartbeats 4000000 in
theorem bk_law_1 {Γ : Gm} {ω : Wd} {Q : State → Prop} {k N L : Nat} {xs : Nat → Int32} (hst : Γ.2.1.stackTraces = false) (C : Cx Γ cL_law 7 RL ω 840 601024 7293034) (SC : Sx Γ ω L xs) {M M' : Mem} {i : Int32} {a1 a2 a3 ce sl : Nat} (hce : ce + 1 ≤ 601024) (hsl : sl + 6 ≤ 7293034) (h : fn_law_1 N L xs M i a1 a2 a3 = some M') (kk : ∀ k, JJ Γ Q 7 ω k M' (ce + 1) (sl + 6) 1440 [(0, .float 300), (1, .ref a1), (2, .ref a2), (3, .ref a3), (4, .int i)] []) : JJ Γ Q 7 ω k M ce sl 317 [(0, .float 300), (1, .ref a1), (2, .ref a2), (3, .ref a3), (4, .int i)] [] := by
  unfold fn_law_1 at h
  refine jv_aload_n C dL_law_317 rfl 1 rfl ?_
  refine jv_sload_n C dL_law_318 rfl 0 rfl ?_
  refine jv_iload C dL_law_319 4 rfl ?_
  refine jv_iconst (v := 1) C dL_law_321 (by decide) ?_
  refine jv_iadd C dL_law_322 ?_
  refine jv_sld C SC dL_law_323 h (fun v1 h => ?_)
  refine jv_vI0 (As := [.int v1]) C lk_L_35 rfl dL_law_324 rfl rfl (by decide) (by omega) (by omega) (Nat.le_of_ble_eq_true rfl) h (fun _ _ h => ct_X9_parse h) (fun v3 M2 h => ?_)
  refine jv_aload_n C dL_law_327 rfl 2 rfl ?_
  refine jv_sload_n C dL_law_328 rfl 0 rfl ?_
  refine jv_iload C dL_law_329 4 rfl ?_
  refine jv_iconst (v := 1) C dL_law_331 (by decide) ?_
  refine jv_iadd C dL_law_332 ?_
  refine jv_sld C SC dL_law_333 h (fun v4 h => ?_)
  refine jv_vI0 (As := [.int v4]) C lk_L_39 rfl dL_law_334 rfl rfl (by decide) (by omega) (by omega) (Nat.le_of_ble_eq_true rfl) h (fun _ _ h => ct_X10_parse h) (fun v6 M5 h => ?_)
  refine jv_icmp_eq (tgt := 1440) C dL_law_337 (by decide) h (fun h => ?_) (fun h => ?_)
  · cases h
    refine jv_widen (ce' := ce + 1) (sl' := sl + 6) (by omega) (by omega) ?_
    exact kk _
  · refine jv_iconst (v := 0) C dL_law_340 (by decide) ?_
    exact jv_no h
def fn_law_2 (N L : Nat) (xs : Nat → Int32) (M : Mem) (i : Int32) (a1 a2 a3 : Nat) : Option Mem :=
  (mm_ck M a1 9).bind fun _ => mm_b2 (fn_X9_typeCount N M a1) fun v2 M1 =>
  (mm_ck M1 a2 10).bind fun _ => mm_b2 (fn_X10_typeCount N M1 a2) fun v4 M3 =>
  if v2 = v4 then
    some M3
  else
    none
set_option maxRecDepth 100000 in
set_option maxHeartbeats 4000000 in
theorem bk_law_2 {Γ : Gm} {ω : Wd} {Q : State → Prop} {k N L : Nat} {xs : Nat → Int32} (hst : Γ.2.1.stackTraces = false) (C : Cx Γ cL_law 7 RL ω 840 601024 7293034) (SC : Sx Γ ω L xs) {M M' : Mem} {i : Int32} {a1 a2 a3 ce sl : Nat} (hce : ce + 1 ≤ 601024) (hsl : sl + 6 ≤ 7293034) (h : fn_law_2 N L xs M i a1 a2 a3 = some M') (kk : ∀ k, JJ Γ Q 7 ω k M' (ce + 1) (sl + 6) 1440 [(0, .float 300), (1, .ref a1), (2, .ref a2), (3, .ref a3), (4, .int i)] []) : JJ Γ Q 7 ω k M ce sl 342 [(0, .float 300), (1, .ref a1), (2, .ref a2), (3, .ref a3), (4, .int i)] [] := by
  unfold fn_law_2 at h
  refine jv_aload_n C dL_law_342 rfl 1 rfl ?_
  refine jv_vI0 (As := []) C lk_L_40 rfl dL_law_343 rfl rfl (by decide) (by omega) (by omega) (Nat.le_of_ble_eq_true rfl) h (fun _ _ h => ct_X9_typeCount h) (fun v2 M1 h => ?_)
  refine jv_aload_n C dL_law_346 rfl 2 rfl ?_
  refine jv_vI0 (As := []) C lk_L_44 rfl dL_law_347 rfl rfl (by decide) (by omega) (by omega) (Nat.le_of_ble_eq_true rfl) h (fun _ _ h => ct_X10_typeCount h) (fun v4 M3 h => ?_)
  refine jv_icmp_eq (tgt := 1440) C dL_law_350 (by decide) h (fun h => ?_) (fun h => ?_)
  · cases h
    refine jv_widen (ce' := ce + 1) (sl' := sl + 6) (by omega) (by omega) ?_
    exact kk _
  · refine jv_iconst (v := 0) C dL_law_353 (by decide) ?_
    exact jv_no h
def fn_law_3 (N L : Nat) (xs : Nat → Int32) (M : Mem) (i : Int32) (a1 a2 a3 : Nat) : Option Mem :=
  (mm_ck M a1 9).bind fun _ => mm_b2 (fn_X9_fakeCount N M a1) fun v2 M1 =>
  (mm_ck M1 a2 10).bind fun _ => mm_b2 (fn_X10_fakeCount N M1 a2) fun v4 M3 =>
  if v2 = v4 then
    some M3
  else
    none
set_option maxRecDepth 100000 in
set_option maxHeartbeats 4000000 in
theorem bk_law_3 {Γ : Gm} {ω : Wd} {Q : State → Prop} {k N L : Nat} {xs : Nat → Int32} (hst : Γ.2.1.stackTraces = false) (C : Cx Γ cL_law 7 RL ω 840 601024 7293034) (SC : Sx Γ ω L xs) {M M' : Mem} {i : Int32} {a1 a2 a3 ce sl : Nat} (hce : ce + 1 ≤ 601024) (hsl : sl + 6 ≤ 7293034) (h : fn_law_3 N L xs M i a1 a2 a3 = some M') (kk : ∀ k, JJ Γ Q 7 ω k M' (ce + 1) (sl + 6) 1440 [(0, .float 300), (1, .ref a1), (2, .ref a2), (3, .ref a3), (4, .int i)] []) : JJ Γ Q 7 ω k M ce sl 355 [(0, .float 300), (1, .ref a1), (2, .ref a2), (3, .ref a3), (4, .int i)] [] := by
  unfold fn_law_3 at h
  refine jv_aload_n C dL_law_355 rfl 1 rfl ?_
  refine jv_vI0 (As := []) C lk_L_45 rfl dL_law_356 rfl rfl (by decide) (by omega) (by omega) (Nat.le_of_ble_eq_true rfl) h (fun _ _ h => ct_X9_fakeCount h) (fun v2 M1 h => ?_)
  refine jv_aload_n C dL_law_359 rfl 2 rfl ?_
  refine jv_vI0 (As := []) C lk_L_48 rfl dL_law_360 rfl rfl (by decide) (by omega) (by omega) (Nat.le_of_ble_eq_true rfl) h (fun _ _ h => ct_X10_fakeCount h) (fun v4 M3 h => ?_)
  refine jv_icmp_eq (tgt := 1440) C dL_law_363 (by decide) h (fun h => ?_) (fun h => ?_)
  · cases h
    refine jv_widen (ce' := ce + 1) (sl' := sl + 6) (by omega) (by omega) ?_
    exact kk _
  · refine jv_iconst (v := 0) C dL_law_366 (by decide) ?_
    exact jv_no h
def fn_law_4 (N L : Nat) (xs : Nat → Int32) (M : Mem) (i : Int32) (a1 a2 a3 : Nat) : Option Mem :=
  (mm_ck M a1 9).bind fun _ => mm_b2 (fn_X9_binCount N M a1) fun v2 M1 =>
  (mm_ck M1 a2 10).bind fun _ => mm_b2 (fn_X10_binCount N M1 a2) fun v4 M3 =>
  if v2 = v4 then
    some M3
  else
    none
set_option maxRecDepth 100000 in
set_option maxHeartbeats 4000000 in
theorem bk_law_4 {Γ : Gm} {ω : Wd} {Q : State → Prop} {k N L : Nat} {xs : Nat → Int32} (hst : Γ.2.1.stackTraces = false) (C : Cx Γ cL_law 7 RL ω 840 601024 7293034) (SC : Sx Γ ω L xs) {M M' : Mem} {i : Int32} {a1 a2 a3 ce sl : Nat} (hce : ce + 1 ≤ 601024) (hsl : sl + 6 ≤ 7293034) (h : fn_law_4 N L xs M i a1 a2 a3 = some M') (kk : ∀ k, JJ Γ Q 7 ω k M' (ce + 1) (sl + 6) 1440 [(0, .float 300), (1, .ref a1), (2, .ref a2), (3, .ref a3), (4, .int i)] []) : JJ Γ Q 7 ω k M ce sl 368 [(0, .float 300), (1, .ref a1), (2, .ref a2), (3, .ref a3), (4, .int i)] [] := by
  unfold fn_law_4 at h
  refine jv_aload_n C dL_law_368 rfl 1 rfl ?_
  refine jv_vI0 (As := []) C lk_L_49 rfl dL_law_369 rfl rfl (by decide) (by omega) (by omega) (Nat.le_of_ble_eq_true rfl) h (fun _ _ h => ct_X9_binCount h) (fun v2 M1 h => ?_)
  refine jv_aload_n C dL_law_372 rfl 2 rfl ?_
  refine jv_vI0 (As := []) C lk_L_52 rfl dL_law_373 rfl rfl (by decide) (by omega) (by omega) (Nat.le_of_ble_eq_true rfl) h (fun _ _ h => ct_X10_binCount h) (fun v4 M3 h => ?_)
  refine jv_icmp_eq (tgt := 1440) C dL_law_376 (by decide) h (fun h => ?_) (fun h => ?_)
  · cases h
    refine jv_widen (ce' := ce + 1) (sl' := sl + 6) (by omega) (by omega) ?_
    exact kk _
  · refine jv_iconst (v := 0) C dL_law_379 (by decide) ?_
    exact jv_no h
def fn_law_5 (N L : Nat) (xs : Nat → Int32) (M : Mem) (i : Int32) (a1 a2 a3 : Nat) : Option Mem :=
  (sc_ld L xs (i + 1)).bind fun v1 =>
  (mm_ck M a1 9).bind fun _ => mm_b2 (fn_X9_typeValue N M a1 v1) fun v3 M2 =>
  (sc_ld L xs (i + 1)).bind fun v4 =>
  (mm_ck M2 a2 10).bind fun _ => mm_b2 (fn_X10_typeValue N M2 a2 v4) fun v6 M5 =>
  if v3 = v6 then
    some M5
  else
    none
set_option maxRecDepth 100000 in
set_option maxHeartbeats 4000000 in
theorem bk_law_5 {Γ : Gm} {ω : Wd} {Q : State → Prop} {k N L : Nat} {xs : Nat → Int32} (hst : Γ.2.1.stackTraces = false) (C : Cx Γ cL_law 7 RL ω 840 601024 7293034) (SC : Sx Γ ω L xs) {M M' : Mem} {i : Int32} {a1 a2 a3 ce sl : Nat} (hce : ce + 1 ≤ 601024) (hsl : sl + 6 ≤ 7293034) (h : fn_law_5 N L xs M i a1 a2 a3 = some M') (kk : ∀ k, JJ Γ Q 7 ω k M' (ce + 1) (sl + 6) 1440 [(0, .float 300), (1, .ref a1), (2, .ref a2), (3, .ref a3), (4, .int i)] []) : JJ Γ Q 7 ω k M ce sl 381 [(0, .float 300), (1, .ref a1), (2, .ref a2), (3, .ref a3), (4, .int i)] [] := by
  unfold fn_law_5 at h
  refine jv_aload_n C dL_law_381 rfl 1 rfl ?_
  refine jv_sload_n C dL_law_382 rfl 0 rfl ?_
  refine jv_iload C dL_law_383 4 rfl ?_
  refine jv_iconst (v := 1) C dL_law_385 (by decide) ?_
  refine jv_iadd C dL_law_386 ?_
  refine jv_sld C SC dL_law_387 h (fun v1 h => ?_)
  refine jv_vI0 (As := [.int v1]) C lk_L_53 rfl dL_law_388 rfl rfl (by decide) (by omega) (by omega) (Nat.le_of_ble_eq_true rfl) h (fun _ _ h => ct_X9_typeValue h) (fun v3 M2 h => ?_)
  refine jv_aload_n C dL_law_391 rfl 2 rfl ?_
  refine jv_sload_n C dL_law_392 rfl 0 rfl ?_
  refine jv_iload C dL_law_393 4 rfl ?_
  refine jv_iconst (v := 1) C dL_law_395 (by decide) ?_
  refine jv_iadd C dL_law_396 ?_
  refine jv_sld C SC dL_law_397 h (fun v4 h => ?_)
  refine jv_vI0 (As := [.int v4]) C lk_L_56 rfl dL_law_398 rfl rfl (by decide) (by omega) (by omega) (Nat.le_of_ble_eq_true rfl) h (fun _ _ h => ct_X10_typeValue h) (fun v6 M5 h => ?_)
  refine jv_icmp_eq (tgt := 1440) C dL_law_401 (by decide) h (fun h => ?_) (fun h => ?_)
  · cases h
    refine jv_widen (ce' := ce + 1) (sl' := sl + 6) (by omega) (by omega) ?_
    exact kk _
  · refine jv_iconst (v := 0) C dL_law_404 (by decide) ?_
    exact jv_no h
def fn_law_6 (N L : Nat) (xs : Nat → Int32) (M : Mem) (i : Int32) (a1 a2 a3 : Nat) : Option Mem :=
  (sc_ld L xs (i + 1)).bind fun v1 =>
  (mm_ck M a1 9).bind fun _ => mm_b2 (fn_X9_binType N M a1 v1) fun v3 M2 =>
  (sc_ld L xs (i + 1)).bind fun v4 =>
  (mm_ck M2 a2 10).bind fun _ => mm_b2 (fn_X10_binType N M2 a2 v4) fun v6 M5 =>
  if v3 = v6 then
    some M5
  else
    none
set_option maxRecDepth 100000 in
set_option maxHeartbeats 4000000 in
theorem bk_law_6 {Γ : Gm} {ω : Wd} {Q : State → Prop} {k N L : Nat} {xs : Nat → Int32} (hst : Γ.2.1.stackTraces = false) (C : Cx Γ cL_law 7 RL ω 840 601024 7293034) (SC : Sx Γ ω L xs) {M M' : Mem} {i : Int32} {a1 a2 a3 ce sl : Nat} (hce : ce + 1 ≤ 601024) (hsl : sl + 6 ≤ 7293034) (h : fn_law_6 N L xs M i a1 a2 a3 = some M') (kk : ∀ k, JJ Γ Q 7 ω k M' (ce + 1) (sl + 6) 1440 [(0, .float 300), (1, .ref a1), (2, .ref a2), (3, .ref a3), (4, .int i)] []) : JJ Γ Q 7 ω k M ce sl 406 [(0, .float 300), (1, .ref a1), (2, .ref a2), (3, .ref a3), (4, .int i)] [] := by
  unfold fn_law_6 at h
  refine jv_aload_n C dL_law_406 rfl 1 rfl ?_
  refine jv_sload_n C dL_law_407 rfl 0 rfl ?_
  refine jv_iload C dL_law_408 4 rfl ?_
  refine jv_iconst (v := 1) C dL_law_410 (by decide) ?_
  refine jv_iadd C dL_law_411 ?_
  refine jv_sld C SC dL_law_412 h (fun v1 h => ?_)
  refine jv_vI0 (As := [.int v1]) C lk_L_57 rfl dL_law_413 rfl rfl (by decide) (by omega) (by omega) (Nat.le_of_ble_eq_true rfl) h (fun _ _ h => ct_X9_binType h) (fun v3 M2 h => ?_)
  refine jv_aload_n C dL_law_416 rfl 2 rfl ?_
  refine jv_sload_n C dL_law_417 rfl 0 rfl ?_
  refine jv_iload C dL_law_418 4 rfl ?_
  refine jv_iconst (v := 1) C dL_law_420 (by decide) ?_
  refine jv_iadd C dL_law_421 ?_
  refine jv_sld C SC dL_law_422 h (fun v4 h => ?_)
  refine jv_vI0 (As := [.int v4]) C lk_L_60 rfl dL_law_423 rfl rfl (by decide) (by omega) (by omega) (Nat.le_of_ble_eq_true rfl) h (fun _ _ h => ct_X10_binType h) (fun v6 M5 h => ?_)
  refine jv_icmp_eq (tgt := 1440) C dL_law_426 (by decide) h (fun h => ?_) (fun h => ?_)
  · cases h
    refine jv_widen (ce' := ce + 1) (sl' := sl + 6) (by omega) (by omega) ?_
    exact kk _
  · refine jv_iconst (v := 0) C dL_law_429 (by decide) ?_
    exact jv_no h
def fn_law_7 (N L : Nat) (xs : Nat → Int32) (M : Mem) (i : Int32) (a1 a2 a3 : Nat) : Option Mem :=
  (sc_ld L xs (i + 1)).bind fun v1 =>
  (mm_ck M a1 9).bind fun _ => mm_b2 (fn_X9_bagSize N M a1 v1) fun v3 M2 =>
  (sc_ld L xs (i + 1)).bind fun v4 =>
  (mm_ck M2 a2 10).bind fun _ => mm_b2 (fn_X10_bagSize N M2 a2 v4) fun v6 M5 =>
  if v3 = v6 then
    some M5
  else
    none
set_option maxRecDepth 100000 in
set_option maxHeartbeats 4000000 in
theorem bk_law_7 {Γ : Gm} {ω : Wd} {Q : State → Prop} {k N L : Nat} {xs : Nat → Int32} (hst : Γ.2.1.stackTraces = false) (C : Cx Γ cL_law 7 RL ω 840 601024 7293034) (SC : Sx Γ ω L xs) {M M' : Mem} {i : Int32} {a1 a2 a3 ce sl : Nat} (hce : ce + 1 ≤ 601024) (hsl : sl + 6 ≤ 7293034) (h : fn_law_7 N L xs M i a1 a2 a3 = some M') (kk : ∀ k, JJ Γ Q 7 ω k M' (ce + 1) (sl + 6) 1440 [(0, .float 300), (1, .ref a1), (2, .ref a2), (3, .ref a3), (4, .int i)] []) : JJ Γ Q 7 ω k M ce sl 431 [(0, .float 300), (1, .ref a1), (2, .ref a2), (3, .ref a3), (4, .int i)] [] := by
  unfold fn_law_7 at h
  refine jv_aload_n C dL_law_431 rfl 1 rfl ?_
  refine jv_sload_n C dL_law_432 rfl 0 rfl ?_
  refine jv_iload C dL_law_433 4 rfl ?_
  refine jv_iconst (v := 1) C dL_law_435 (by decide) ?_
  refine jv_iadd C dL_law_436 ?_
  refine jv_sld C SC dL_law_437 h (fun v1 h => ?_)
  refine jv_vI0 (As := [.int v1]) C lk_L_61 rfl dL_law_438 rfl rfl (by decide) (by omega) (by omega) (Nat.le_of_ble_eq_true rfl) h (fun _ _ h => ct_X9_bagSize h) (fun v3 M2 h => ?_)
  refine jv_aload_n C dL_law_441 rfl 2 rfl ?_
  refine jv_sload_n C dL_law_442 rfl 0 rfl ?_
  refine jv_iload C dL_law_443 4 rfl ?_
  refine jv_iconst (v := 1) C dL_law_445 (by decide) ?_
  refine jv_iadd C dL_law_446 ?_
  refine jv_sld C SC dL_law_447 h (fun v4 h => ?_)
  refine jv_vI0 (As := [.int v4]) C lk_L_64 rfl dL_law_448 rfl rfl (by decide) (by omega) (by omega) (Nat.le_of_ble_eq_true rfl) h (fun _ _ h => ct_X10_bagSize h) (fun v6 M5 h => ?_)
  refine jv_icmp_eq (tgt := 1440) C dL_law_451 (by decide) h (fun h => ?_) (fun h => ?_)
  · cases h
    refine jv_widen (ce' := ce + 1) (sl' := sl + 6) (by omega) (by omega) ?_
    exact kk _
  · refine jv_iconst (v := 0) C dL_law_454 (by decide) ?_
    exact jv_no h
def fn_law_8 (N L : Nat) (xs : Nat → Int32) (M : Mem) (i : Int32) (a1 a2 a3 : Nat) : Option Mem :=
  (sc_ld L xs (i + 1)).bind fun v1 =>
  (sc_ld L xs (i + 2)).bind fun v2 =>
  (sc_ld L xs (i + 3)).bind fun v3 =>
  mm_b2 (fn_L_score N M a1 v1 v2 v3 a3) fun v5 M4 =>
  (sc_ld L xs (i + 1)).bind fun v6 =>
  (sc_ld L xs (i + 2)).bind fun v7 =>
  (sc_ld L xs (i + 3)).bind fun v8 =>
  (mm_ck M4 a2 10).bind fun _ => mm_b2 (fn_X10_score N M4 a2 v6 v7 v8) fun v10 M9 =>
  (mm_ck M9 a2 10).bind fun _ => mm_b2 (fn_X10_thrown N M9 a2) fun v12 M11 =>
  if v12 = v5 then
    if v5 = 0 then
      (mm_aL M11 a3 0).bind fun v13 =>
      if (lg_cmp v13 (Int32.toInt64 v10)) = 0 then
        some M11
      else
        none
    else
      some M11
  else
    none
set_option maxRecDepth 100000 in
set_option maxHeartbeats 4000000 in
theorem bk_law_8 {Γ : Gm} {ω : Wd} {Q : State → Prop} {k N L : Nat} {xs : Nat → Int32} (hst : Γ.2.1.stackTraces = false) (C : Cx Γ cL_law 7 RL ω 840 601024 7293034) (SC : Sx Γ ω L xs) {M M' : Mem} {i : Int32} {a1 a2 a3 ce sl : Nat} (hce : ce + 1 ≤ 601024) (hsl : sl + 6 ≤ 7293034) (h : fn_law_8 N L xs M i a1 a2 a3 = some M') (kk : ∀ k, JJ Γ Q 7 ω k M' (ce + 1) (sl + 6) 1440 [(0, .float 300), (1, .ref a1), (2, .ref a2), (3, .ref a3), (4, .int i)] []) : JJ Γ Q 7 ω k M ce sl 456 [(0, .float 300), (1, .ref a1), (2, .ref a2), (3, .ref a3), (4, .int i)] [] := by
  unfold fn_law_8 at h
  refine jv_aload_n C dL_law_456 rfl 1 rfl ?_
  refine jv_sload_n C dL_law_457 rfl 0 rfl ?_
  refine jv_iload C dL_law_458 4 rfl ?_
  refine jv_iconst (v := 1) C dL_law_460 (by decide) ?_
  refine jv_iadd C dL_law_461 ?_
  refine jv_sld C SC dL_law_462 h (fun v1 h => ?_)
  refine jv_sload_n C dL_law_463 rfl 0 rfl ?_
  refine jv_iload C dL_law_464 4 rfl ?_
  refine jv_iconst (v := 2) C dL_law_466 (by decide) ?_
  refine jv_iadd C dL_law_467 ?_
  refine jv_sld C SC dL_law_468 h (fun v2 h => ?_)
  refine jv_sload_n C dL_law_469 rfl 0 rfl ?_
  refine jv_iload C dL_law_470 4 rfl ?_
  refine jv_iconst (v := 3) C dL_law_472 (by decide) ?_
  refine jv_iadd C dL_law_473 ?_
  refine jv_sld C SC dL_law_474 h (fun v3 h => ?_)
  refine jv_aload_n C dL_law_475 rfl 3 rfl ?_
  refine jv_kI (As := [.ref a1, .int v1, .int v2, .int v3, .ref a3]) C lk_L_65 dL_law_476 rfl rfl (by decide) (by omega) (by omega) (Nat.le_of_ble_eq_true rfl) h (fun _ _ h => ck_L_score hst h) (fun k v5 M4 h => ?_)
  refine jv_istore (lv' := [(5, .int v5), (0, .float 300), (1, .ref a1), (2, .ref a2), (3, .ref a3), (4, .int i)]) C dL_law_479 (by decide) rfl ?_
  refine jv_aload_n C dL_law_481 rfl 3 rfl ?_
  refine jv_sload_n C dL_law_482 rfl 1 rfl ?_
  refine jv_iload C dL_law_483 5 rfl ?_
  refine jv_iconst (v := 1) C dL_law_485 (by decide) ?_
  refine jv_iadd C dL_law_486 ?_
  refine jv_sld C SC dL_law_487 h (fun v6 h => ?_)
  refine jv_sload_n C dL_law_488 rfl 1 rfl ?_
  refine jv_iload C dL_law_489 5 rfl ?_
  refine jv_iconst (v := 2) C dL_law_491 (by decide) ?_
  refine jv_iadd C dL_law_492 ?_
  refine jv_sld C SC dL_law_493 h (fun v7 h => ?_)
  refine jv_sload_n C dL_law_494 rfl 1 rfl ?_
  refine jv_iload C dL_law_495 5 rfl ?_
  refine jv_iconst (v := 3) C dL_law_497 (by decide) ?_
  refine jv_iadd C dL_law_498 ?_
  refine jv_sld C SC dL_law_499 h (fun v8 h => ?_)
  refine jv_vI0 (As := [.int v6, .int v7, .int v8]) C lk_L_70 rfl dL_law_500 rfl rfl (by decide) (by omega) (by omega) (Nat.le_of_ble_eq_true rfl) h (fun _ _ h => ct_X10_score h) (fun v10 M9 h => ?_)
  refine jv_istore (lv' := [(6, .int v10), (5, .int v5), (0, .float 300), (1, .ref a1), (2, .ref a2), (3, .ref a3), (4, .int i)]) C dL_law_503 (by decide) rfl ?_
  refine jv_aload_n C dL_law_505 rfl 4 rfl ?_
  refine jv_vI0 (As := []) C lk_L_71 rfl dL_law_506 rfl rfl (by decide) (by omega) (by omega) (Nat.le_of_ble_eq_true rfl) h (fun _ _ h => ct_X10_thrown h) (fun v12 M11 h => ?_)
  refine jv_iload C dL_law_509 1 rfl ?_
  refine jv_icmp_eq (tgt := 516) C dL_law_511 (by decide) h (fun h => ?_) (fun h => ?_)
  · refine jv_iload C dL_law_516 1 rfl ?_
    refine jv_if_ne (tgt := 533) C dL_law_518 (by decide) h (fun h => ?_) (fun h => ?_)
    · refine jv_goto (tgt := 1440) C dL_law_533 (by decide) ?_
      cases h
      refine jv_sub [2, 3, 4, 5, 6] rfl ?_
      exact kk _
    · refine jv_aload_n C dL_law_521 rfl 5 rfl ?_
      refine jv_iconst (v := 0) C dL_law_522 (by decide) ?_
      refine jv_lald C dL_law_523 h (fun v13 h => ?_)
      refine jv_iload C dL_law_524 0 rfl ?_
      refine jv_i2l C dL_law_526 ?_
      refine jv_lcmp C dL_law_527 ?_
      refine jv_if_eq (tgt := 533) C dL_law_528 (by decide) h (fun h => ?_) (fun h => ?_)
      · refine jv_goto (tgt := 1440) C dL_law_533 (by decide) ?_
        cases h
        refine jv_sub [2, 3, 4, 5, 6] rfl ?_
        exact kk _
      · refine jv_iconst (v := 0) C dL_law_531 (by decide) ?_
        exact jv_no h
  · refine jv_iconst (v := 0) C dL_law_514 (by decide) ?_
    exact jv_no h
def fn_law_9 (N L : Nat) (xs : Nat → Int32) (M : Mem) (i : Int32) (a1 a2 a3 : Nat) : Option Mem :=
  (sc_ld L xs (i + 1)).bind fun v1 =>
  (sc_ld L xs (i + 2)).bind fun v2 =>
  mm_b2 (fn_L_classify N M a1 v1 v2 a3) fun v4 M3 =>
  (sc_ld L xs (i + 1)).bind fun v5 =>
  (sc_ld L xs (i + 2)).bind fun v6 =>
  (mm_ck M3 a2 10).bind fun _ => mm_b2 (fn_X10_classify N M3 a2 v5 v6) fun v8 M7 =>
  (mm_ck M7 a2 10).bind fun _ => mm_b2 (fn_X10_thrown N M7 a2) fun v10 M9 =>
  if v10 = v4 then
    if v4 = 0 then
      (mm_aL M9 a3 0).bind fun v11 =>
      if (lg_cmp v11 (Int32.toInt64 v8)) = 0 then
        some M9
      else
        none
    else
      some M9
  else
    none
set_option maxRecDepth 100000 in
set_option maxHeartbeats 4000000 in
theorem bk_law_9 {Γ : Gm} {ω : Wd} {Q : State → Prop} {k N L : Nat} {xs : Nat → Int32} (hst : Γ.2.1.stackTraces = false) (C : Cx Γ cL_law 7 RL ω 840 601024 7293034) (SC : Sx Γ ω L xs) {M M' : Mem} {i : Int32} {a1 a2 a3 ce sl : Nat} (hce : ce + 1 ≤ 601024) (hsl : sl + 6 ≤ 7293034) (h : fn_law_9 N L xs M i a1 a2 a3 = some M') (kk : ∀ k, JJ Γ Q 7 ω k M' (ce + 1) (sl + 6) 1440 [(0, .float 300), (1, .ref a1), (2, .ref a2), (3, .ref a3), (4, .int i)] []) : JJ Γ Q 7 ω k M ce sl 536 [(0, .float 300), (1, .ref a1), (2, .ref a2), (3, .ref a3), (4, .int i)] [] := by
  unfold fn_law_9 at h
  refine jv_aload_n C dL_law_536 rfl 1 rfl ?_
  refine jv_sload_n C dL_law_537 rfl 0 rfl ?_
  refine jv_iload C dL_law_538 4 rfl ?_
  refine jv_iconst (v := 1) C dL_law_540 (by decide) ?_
  refine jv_iadd C dL_law_541 ?_
  refine jv_sld C SC dL_law_542 h (fun v1 h => ?_)
  refine jv_sload_n C dL_law_543 rfl 0 rfl ?_
  refine jv_iload C dL_law_544 4 rfl ?_
  refine jv_iconst (v := 2) C dL_law_546 (by decide) ?_
  refine jv_iadd C dL_law_547 ?_
  refine jv_sld C SC dL_law_548 h (fun v2 h => ?_)
  refine jv_aload_n C dL_law_549 rfl 3 rfl ?_
  refine jv_kI (As := [.ref a1, .int v1, .int v2, .ref a3]) C lk_L_74 dL_law_550 rfl rfl (by decide) (by omega) (by omega) (Nat.le_of_ble_eq_true rfl) h (fun _ _ h => ck_L_classify hst h) (fun k v4 M3 h => ?_)
  refine jv_istore (lv' := [(5, .int v4), (0, .float 300), (1, .ref a1), (2, .ref a2), (3, .ref a3), (4, .int i)]) C dL_law_553 (by decide) rfl ?_
  refine jv_aload_n C dL_law_555 rfl 3 rfl ?_
  refine jv_sload_n C dL_law_556 rfl 1 rfl ?_
  refine jv_iload C dL_law_557 5 rfl ?_
  refine jv_iconst (v := 1) C dL_law_559 (by decide) ?_
  refine jv_iadd C dL_law_560 ?_
  refine jv_sld C SC dL_law_561 h (fun v5 h => ?_)
  refine jv_sload_n C dL_law_562 rfl 1 rfl ?_
  refine jv_iload C dL_law_563 5 rfl ?_
  refine jv_iconst (v := 2) C dL_law_565 (by decide) ?_
  refine jv_iadd C dL_law_566 ?_
  refine jv_sld C SC dL_law_567 h (fun v6 h => ?_)
  refine jv_vI0 (As := [.int v5, .int v6]) C lk_L_77 rfl dL_law_568 rfl rfl (by decide) (by omega) (by omega) (Nat.le_of_ble_eq_true rfl) h (fun _ _ h => ct_X10_classify h) (fun v8 M7 h => ?_)
  refine jv_istore (lv' := [(6, .int v8), (5, .int v4), (0, .float 300), (1, .ref a1), (2, .ref a2), (3, .ref a3), (4, .int i)]) C dL_law_571 (by decide) rfl ?_
  refine jv_aload_n C dL_law_573 rfl 4 rfl ?_
  refine jv_vI0 (As := []) C lk_L_71 rfl dL_law_574 rfl rfl (by decide) (by omega) (by omega) (Nat.le_of_ble_eq_true rfl) h (fun _ _ h => ct_X10_thrown h) (fun v10 M9 h => ?_)
  refine jv_iload C dL_law_577 1 rfl ?_
  refine jv_icmp_eq (tgt := 584) C dL_law_579 (by decide) h (fun h => ?_) (fun h => ?_)
  · refine jv_iload C dL_law_584 1 rfl ?_
    refine jv_if_ne (tgt := 601) C dL_law_586 (by decide) h (fun h => ?_) (fun h => ?_)
    · refine jv_goto (tgt := 1440) C dL_law_601 (by decide) ?_
      cases h
      refine jv_sub [2, 3, 4, 5, 6] rfl ?_
      exact kk _
    · refine jv_aload_n C dL_law_589 rfl 5 rfl ?_
      refine jv_iconst (v := 0) C dL_law_590 (by decide) ?_
      refine jv_lald C dL_law_591 h (fun v11 h => ?_)
      refine jv_iload C dL_law_592 0 rfl ?_
      refine jv_i2l C dL_law_594 ?_
      refine jv_lcmp C dL_law_595 ?_
      refine jv_if_eq (tgt := 601) C dL_law_596 (by decide) h (fun h => ?_) (fun h => ?_)
      · refine jv_goto (tgt := 1440) C dL_law_601 (by decide) ?_
        cases h
        refine jv_sub [2, 3, 4, 5, 6] rfl ?_
        exact kk _
      · refine jv_iconst (v := 0) C dL_law_599 (by decide) ?_
        exact jv_no h
  · refine jv_iconst (v := 0) C dL_law_582 (by decide) ?_
    exact jv_no h
def fn_law_10 (N L : Nat) (xs : Nat → Int32) (M : Mem) (i : Int32) (a1 a2 a3 : Nat) : Option Mem :=
  (mm_ck M a1 9).bind fun _ => mm_b2 (fn_X9_diameterOffset N M a1) fun v2 M1 =>
  (mm_ck M1 a2 10).bind fun _ => mm_b2 (fn_X10_diameterOffset N M1 a2) fun v4 M3 =>
  if v2 = v4 then
    some M3
  else
    none
set_option maxRecDepth 100000 in
set_option maxHeartbeats 4000000 in
theorem bk_law_10 {Γ : Gm} {ω : Wd} {Q : State → Prop} {k N L : Nat} {xs : Nat → Int32} (hst : Γ.2.1.stackTraces = false) (C : Cx Γ cL_law 7 RL ω 840 601024 7293034) (SC : Sx Γ ω L xs) {M M' : Mem} {i : Int32} {a1 a2 a3 ce sl : Nat} (hce : ce + 1 ≤ 601024) (hsl : sl + 6 ≤ 7293034) (h : fn_law_10 N L xs M i a1 a2 a3 = some M') (kk : ∀ k, JJ Γ Q 7 ω k M' (ce + 1) (sl + 6) 1440 [(0, .float 300), (1, .ref a1), (2, .ref a2), (3, .ref a3), (4, .int i)] []) : JJ Γ Q 7 ω k M ce sl 604 [(0, .float 300), (1, .ref a1), (2, .ref a2), (3, .ref a3), (4, .int i)] [] := by
  unfold fn_law_10 at h
  refine jv_aload_n C dL_law_604 rfl 1 rfl ?_
  refine jv_vI0 (As := []) C lk_L_78 rfl dL_law_605 rfl rfl (by decide) (by omega) (by omega) (Nat.le_of_ble_eq_true rfl) h (fun _ _ h => ct_X9_diameterOffset h) (fun v2 M1 h => ?_)
  refine jv_aload_n C dL_law_608 rfl 2 rfl ?_
  refine jv_vI0 (As := []) C lk_L_81 rfl dL_law_609 rfl rfl (by decide) (by omega) (by omega) (Nat.le_of_ble_eq_true rfl) h (fun _ _ h => ct_X10_diameterOffset h) (fun v4 M3 h => ?_)
  refine jv_icmp_eq (tgt := 1440) C dL_law_612 (by decide) h (fun h => ?_) (fun h => ?_)
  · cases h
    refine jv_widen (ce' := ce + 1) (sl' := sl + 6) (by omega) (by omega) ?_
    exact kk _
  · refine jv_iconst (v := 0) C dL_law_615 (by decide) ?_
    exact jv_no h
def fn_law_11 (N L : Nat) (xs : Nat → Int32) (M : Mem) (i : Int32) (a1 a2 a3 : Nat) : Option Mem :=
  (mm_ck M a1 9).bind fun _ => mm_b2 (fn_X9_alloyOffset N M a1) fun v2 M1 =>
  (mm_ck M1 a2 10).bind fun _ => mm_b2 (fn_X10_alloyOffset N M1 a2) fun v4 M3 =>
  if v2 = v4 then
    some M3
  else
    none
set_option maxRecDepth 100000 in
set_option maxHeartbeats 4000000 in
theorem bk_law_11 {Γ : Gm} {ω : Wd} {Q : State → Prop} {k N L : Nat} {xs : Nat → Int32} (hst : Γ.2.1.stackTraces = false) (C : Cx Γ cL_law 7 RL ω 840 601024 7293034) (SC : Sx Γ ω L xs) {M M' : Mem} {i : Int32} {a1 a2 a3 ce sl : Nat} (hce : ce + 1 ≤ 601024) (hsl : sl + 6 ≤ 7293034) (h : fn_law_11 N L xs M i a1 a2 a3 = some M') (kk : ∀ k, JJ Γ Q 7 ω k M' (ce + 1) (sl + 6) 1440 [(0, .float 300), (1, .ref a1), (2, .ref a2), (3, .ref a3), (4, .int i)] []) : JJ Γ Q 7 ω k M ce sl 617 [(0, .float 300), (1, .ref a1), (2, .ref a2), (3, .ref a3), (4, .int i)] [] := by
  unfold fn_law_11 at h
  refine jv_aload_n C dL_law_617 rfl 1 rfl ?_
  refine jv_vI0 (As := []) C lk_L_82 rfl dL_law_618 rfl rfl (by decide) (by omega) (by omega) (Nat.le_of_ble_eq_true rfl) h (fun _ _ h => ct_X9_alloyOffset h) (fun v2 M1 h => ?_)
  refine jv_aload_n C dL_law_621 rfl 2 rfl ?_
  refine jv_vI0 (As := []) C lk_L_85 rfl dL_law_622 rfl rfl (by decide) (by omega) (by omega) (Nat.le_of_ble_eq_true rfl) h (fun _ _ h => ct_X10_alloyOffset h) (fun v4 M3 h => ?_)
  refine jv_icmp_eq (tgt := 1440) C dL_law_625 (by decide) h (fun h => ?_) (fun h => ?_)
  · cases h
    refine jv_widen (ce' := ce + 1) (sl' := sl + 6) (by omega) (by omega) ?_
    exact kk _
  · refine jv_iconst (v := 0) C dL_law_628 (by decide) ?_
    exact jv_no h
def fn_law_12 (N L : Nat) (xs : Nat → Int32) (M : Mem) (i : Int32) (a1 a2 a3 : Nat) : Option Mem :=
  (mm_ck M a1 9).bind fun _ => mm_b2 (fn_X9_margin N M a1) fun v2 M1 =>
  (mm_ck M1 a2 10).bind fun _ => mm_b2 (fn_X10_margin N M1 a2) fun v4 M3 =>
  if v2 = v4 then
    some M3
  else
    none
set_option maxRecDepth 100000 in
set_option maxHeartbeats 4000000 in
theorem bk_law_12 {Γ : Gm} {ω : Wd} {Q : State → Prop} {k N L : Nat} {xs : Nat → Int32} (hst : Γ.2.1.stackTraces = false) (C : Cx Γ cL_law 7 RL ω 840 601024 7293034) (SC : Sx Γ ω L xs) {M M' : Mem} {i : Int32} {a1 a2 a3 ce sl : Nat} (hce : ce + 1 ≤ 601024) (hsl : sl + 6 ≤ 7293034) (h : fn_law_12 N L xs M i a1 a2 a3 = some M') (kk : ∀ k, JJ Γ Q 7 ω k M' (ce + 1) (sl + 6) 1440 [(0, .float 300), (1, .ref a1), (2, .ref a2), (3, .ref a3), (4, .int i)] []) : JJ Γ Q 7 ω k M ce sl 630 [(0, .float 300), (1, .ref a1), (2, .ref a2), (3, .ref a3), (4, .int i)] [] := by
  unfold fn_law_12 at h
  refine jv_aload_n C dL_law_630 rfl 1 rfl ?_
  refine jv_vI0 (As := []) C lk_L_86 rfl dL_law_631 rfl rfl (by decide) (by omega) (by omega) (Nat.le_of_ble_eq_true rfl) h (fun _ _ h => ct_X9_margin h) (fun v2 M1 h => ?_)
  refine jv_aload_n C dL_law_634 rfl 2 rfl ?_
  refine jv_vI0 (As := []) C lk_L_89 rfl dL_law_635 rfl rfl (by decide) (by omega) (by omega) (Nat.le_of_ble_eq_true rfl) h (fun _ _ h => ct_X10_margin h) (fun v4 M3 h => ?_)
  refine jv_icmp_eq (tgt := 1440) C dL_law_638 (by decide) h (fun h => ?_) (fun h => ?_)
  · cases h
    refine jv_widen (ce' := ce + 1) (sl' := sl + 6) (by omega) (by omega) ?_
    exact kk _
  · refine jv_iconst (v := 0) C dL_law_641 (by decide) ?_
    exact jv_no h
def fn_law_13 (N L : Nat) (xs : Nat → Int32) (M : Mem) (i : Int32) (a1 a2 a3 : Nat) : Option Mem :=
  (mm_ck M a1 9).bind fun _ => mm_b2 (fn_X9_hopperSize N M a1) fun v2 M1 =>
  (mm_ck M1 a2 10).bind fun _ => mm_b2 (fn_X10_hopperSize N M1 a2) fun v4 M3 =>
  if v2 = v4 then
    some M3
  else
    none
set_option maxRecDepth 100000 in
set_option maxHeartbeats 4000000 in
theorem bk_law_13 {Γ : Gm} {ω : Wd} {Q : State → Prop} {k N L : Nat} {xs : Nat → Int32} (hst : Γ.2.1.stackTraces = false) (C : Cx Γ cL_law 7 RL ω 840 601024 7293034) (SC : Sx Γ ω L xs) {M M' : Mem} {i : Int32} {a1 a2 a3 ce sl : Nat} (hce : ce + 1 ≤ 601024) (hsl : sl + 6 ≤ 7293034) (h : fn_law_13 N L xs M i a1 a2 a3 = some M') (kk : ∀ k, JJ Γ Q 7 ω k M' (ce + 1) (sl + 6) 1440 [(0, .float 300), (1, .ref a1), (2, .ref a2), (3, .ref a3), (4, .int i)] []) : JJ Γ Q 7 ω k M ce sl 643 [(0, .float 300), (1, .ref a1), (2, .ref a2), (3, .ref a3), (4, .int i)] [] := by
  unfold fn_law_13 at h
  refine jv_aload_n C dL_law_643 rfl 1 rfl ?_
  refine jv_vI0 (As := []) C lk_L_90 rfl dL_law_644 rfl rfl (by decide) (by omega) (by omega) (Nat.le_of_ble_eq_true rfl) h (fun _ _ h => ct_X9_hopperSize h) (fun v2 M1 h => ?_)
  refine jv_aload_n C dL_law_647 rfl 2 rfl ?_
  refine jv_vI0 (As := []) C lk_L_93 rfl dL_law_648 rfl rfl (by decide) (by omega) (by omega) (Nat.le_of_ble_eq_true rfl) h (fun _ _ h => ct_X10_hopperSize h) (fun v4 M3 h => ?_)
  refine jv_icmp_eq (tgt := 1440) C dL_law_651 (by decide) h (fun h => ?_) (fun h => ?_)
  · cases h
    refine jv_widen (ce' := ce + 1) (sl' := sl + 6) (by omega) (by omega) ?_
    exact kk _
  · refine jv_iconst (v := 0) C dL_law_654 (by decide) ?_
    exact jv_no h
def fn_law_14 (N L : Nat) (xs : Nat → Int32) (M : Mem) (i : Int32) (a1 a2 a3 : Nat) : Option Mem :=
  (mm_ck M a1 9).bind fun _ => mm_b2 (fn_X9_loopSize N M a1) fun v2 M1 =>
  (mm_ck M1 a2 10).bind fun _ => mm_b2 (fn_X10_loopSize N M1 a2) fun v4 M3 =>
  if v2 = v4 then
    some M3
  else
    none
set_option maxRecDepth 100000 in
set_option maxHeartbeats 4000000 in
theorem bk_law_14 {Γ : Gm} {ω : Wd} {Q : State → Prop} {k N L : Nat} {xs : Nat → Int32} (hst : Γ.2.1.stackTraces = false) (C : Cx Γ cL_law 7 RL ω 840 601024 7293034) (SC : Sx Γ ω L xs) {M M' : Mem} {i : Int32} {a1 a2 a3 ce sl : Nat} (hce : ce + 1 ≤ 601024) (hsl : sl + 6 ≤ 7293034) (h : fn_law_14 N L xs M i a1 a2 a3 = some M') (kk : ∀ k, JJ Γ Q 7 ω k M' (ce + 1) (sl + 6) 1440 [(0, .float 300), (1, .ref a1), (2, .ref a2), (3, .ref a3), (4, .int i)] []) : JJ Γ Q 7 ω k M ce sl 656 [(0, .float 300), (1, .ref a1), (2, .ref a2), (3, .ref a3), (4, .int i)] [] := by
  unfold fn_law_14 at h
  refine jv_aload_n C dL_law_656 rfl 1 rfl ?_
  refine jv_vI0 (As := []) C lk_L_94 rfl dL_law_657 rfl rfl (by decide) (by omega) (by omega) (Nat.le_of_ble_eq_true rfl) h (fun _ _ h => ct_X9_loopSize h) (fun v2 M1 h => ?_)
  refine jv_aload_n C dL_law_660 rfl 2 rfl ?_
  refine jv_vI0 (As := []) C lk_L_97 rfl dL_law_661 rfl rfl (by decide) (by omega) (by omega) (Nat.le_of_ble_eq_true rfl) h (fun _ _ h => ct_X10_loopSize h) (fun v4 M3 h => ?_)
  refine jv_icmp_eq (tgt := 1440) C dL_law_664 (by decide) h (fun h => ?_) (fun h => ?_)
  · cases h
    refine jv_widen (ce' := ce + 1) (sl' := sl + 6) (by omega) (by omega) ?_
    exact kk _
  · refine jv_iconst (v := 0) C dL_law_667 (by decide) ?_
    exact jv_no h
def fn_law_15 (N L : Nat) (xs : Nat → Int32) (M : Mem) (i : Int32) (a1 a2 a3 : Nat) : Option Mem :=
  (sc_ld L xs (i + 1)).bind fun v1 =>
  (mm_ck M a1 9).bind fun _ => mm_b2 (fn_X9_loopType N M a1 v1) fun v3 M2 =>
  (sc_ld L xs (i + 1)).bind fun v4 =>
  (mm_ck M2 a2 10).bind fun _ => mm_b2 (fn_X10_loopType N M2 a2 v4) fun v6 M5 =>
  if v3 = v6 then
    some M5
  else
    none
set_option maxRecDepth 100000 in
set_option maxHeartbeats 4000000 in
theorem bk_law_15 {Γ : Gm} {ω : Wd} {Q : State → Prop} {k N L : Nat} {xs : Nat → Int32} (hst : Γ.2.1.stackTraces = false) (C : Cx Γ cL_law 7 RL ω 840 601024 7293034) (SC : Sx Γ ω L xs) {M M' : Mem} {i : Int32} {a1 a2 a3 ce sl : Nat} (hce : ce + 1 ≤ 601024) (hsl : sl + 6 ≤ 7293034) (h : fn_law_15 N L xs M i a1 a2 a3 = some M') (kk : ∀ k, JJ Γ Q 7 ω k M' (ce + 1) (sl + 6) 1440 [(0, .float 300), (1, .ref a1), (2, .ref a2), (3, .ref a3), (4, .int i)] []) : JJ Γ Q 7 ω k M ce sl 669 [(0, .float 300), (1, .ref a1), (2, .ref a2), (3, .ref a3), (4, .int i)] [] := by
  unfold fn_law_15 at h
  refine jv_aload_n C dL_law_669 rfl 1 rfl ?_
  refine jv_sload_n C dL_law_670 rfl 0 rfl ?_
  refine jv_iload C dL_law_671 4 rfl ?_
  refine jv_iconst (v := 1) C dL_law_673 (by decide) ?_
  refine jv_iadd C dL_law_674 ?_
  refine jv_sld C SC dL_law_675 h (fun v1 h => ?_)
  refine jv_vI0 (As := [.int v1]) C lk_L_98 rfl dL_law_676 rfl rfl (by decide) (by omega) (by omega) (Nat.le_of_ble_eq_true rfl) h (fun _ _ h => ct_X9_loopType h) (fun v3 M2 h => ?_)
  refine jv_aload_n C dL_law_679 rfl 2 rfl ?_
  refine jv_sload_n C dL_law_680 rfl 0 rfl ?_
  refine jv_iload C dL_law_681 4 rfl ?_
  refine jv_iconst (v := 1) C dL_law_683 (by decide) ?_
  refine jv_iadd C dL_law_684 ?_
  refine jv_sld C SC dL_law_685 h (fun v4 h => ?_)
  refine jv_vI0 (As := [.int v4]) C lk_L_101 rfl dL_law_686 rfl rfl (by decide) (by omega) (by omega) (Nat.le_of_ble_eq_true rfl) h (fun _ _ h => ct_X10_loopType h) (fun v6 M5 h => ?_)
  refine jv_icmp_eq (tgt := 1440) C dL_law_689 (by decide) h (fun h => ?_) (fun h => ?_)
  · cases h
    refine jv_widen (ce' := ce + 1) (sl' := sl + 6) (by omega) (by omega) ?_
    exact kk _
  · refine jv_iconst (v := 0) C dL_law_692 (by decide) ?_
    exact jv_no h
def fn_law_16 (N L : Nat) (xs : Nat → Int32) (M : Mem) (i : Int32) (a1 a2 a3 : Nat) : Option Mem :=
  (mm_ck M a1 9).bind fun _ => mm_b2 (fn_X9_isJammed N M a1) fun v2 M1 =>
  (mm_ck M1 a2 10).bind fun _ => mm_b2 (fn_X10_isJammed N M1 a2) fun v4 M3 =>
  if v2 = v4 then
    some M3
  else
    none
set_option maxRecDepth 100000 in
set_option maxHeartbeats 4000000 in
theorem bk_law_16 {Γ : Gm} {ω : Wd} {Q : State → Prop} {k N L : Nat} {xs : Nat → Int32} (hst : Γ.2.1.stackTraces = false) (C : Cx Γ cL_law 7 RL ω 840 601024 7293034) (SC : Sx Γ ω L xs) {M M' : Mem} {i : Int32} {a1 a2 a3 ce sl : Nat} (hce : ce + 1 ≤ 601024) (hsl : sl + 6 ≤ 7293034) (h : fn_law_16 N L xs M i a1 a2 a3 = some M') (kk : ∀ k, JJ Γ Q 7 ω k M' (ce + 1) (sl + 6) 1440 [(0, .float 300), (1, .ref a1), (2, .ref a2), (3, .ref a3), (4, .int i)] []) : JJ Γ Q 7 ω k M ce sl 694 [(0, .float 300), (1, .ref a1), (2, .ref a2), (3, .ref a3), (4, .int i)] [] := by
  unfold fn_law_16 at h
  refine jv_aload_n C dL_law_694 rfl 1 rfl ?_
  refine jv_vI0 (As := []) C lk_L_102 rfl dL_law_695 rfl rfl (by decide) (by omega) (by omega) (Nat.le_of_ble_eq_true rfl) h (fun _ _ h => ct_X9_isJammed h) (fun v2 M1 h => ?_)
  refine jv_aload_n C dL_law_698 rfl 2 rfl ?_
  refine jv_vI0 (As := []) C lk_L_106 rfl dL_law_699 rfl rfl (by decide) (by omega) (by omega) (Nat.le_of_ble_eq_true rfl) h (fun _ _ h => ct_X10_isJammed h) (fun v4 M3 h => ?_)
  refine jv_icmp_eq (tgt := 1440) C dL_law_702 (by decide) h (fun h => ?_) (fun h => ?_)
  · cases h
    refine jv_widen (ce' := ce + 1) (sl' := sl + 6) (by omega) (by omega) ?_
    exact kk _
  · refine jv_iconst (v := 0) C dL_law_705 (by decide) ?_
    exact jv_no h
def fn_law_17 (N L : Nat) (xs : Nat → Int32) (M : Mem) (i : Int32) (a1 a2 a3 : Nat) : Option Mem :=
  (mm_ck M a1 9).bind fun _ => mm_b2 (fn_X9_isStopped N M a1) fun v2 M1 =>
  (mm_ck M1 a2 10).bind fun _ => mm_b2 (fn_X10_isStopped N M1 a2) fun v4 M3 =>
  if v2 = v4 then
    some M3
  else
    none
set_option maxRecDepth 100000 in
set_option maxHeartbeats 4000000 in
theorem bk_law_17 {Γ : Gm} {ω : Wd} {Q : State → Prop} {k N L : Nat} {xs : Nat → Int32} (hst : Γ.2.1.stackTraces = false) (C : Cx Γ cL_law 7 RL ω 840 601024 7293034) (SC : Sx Γ ω L xs) {M M' : Mem} {i : Int32} {a1 a2 a3 ce sl : Nat} (hce : ce + 1 ≤ 601024) (hsl : sl + 6 ≤ 7293034) (h : fn_law_17 N L xs M i a1 a2 a3 = some M') (kk : ∀ k, JJ Γ Q 7 ω k M' (ce + 1) (sl + 6) 1440 [(0, .float 300), (1, .ref a1), (2, .ref a2), (3, .ref a3), (4, .int i)] []) : JJ Γ Q 7 ω k M ce sl 707 [(0, .float 300), (1, .ref a1), (2, .ref a2), (3, .ref a3), (4, .int i)] [] := by
  unfold fn_law_17 at h
  refine jv_aload_n C dL_law_707 rfl 1 rfl ?_
  refine jv_vI0 (As := []) C lk_L_107 rfl dL_law_708 rfl rfl (by decide) (by omega) (by omega) (Nat.le_of_ble_eq_true rfl) h (fun _ _ h => ct_X9_isStopped h) (fun v2 M1 h => ?_)
  refine jv_aload_n C dL_law_711 rfl 2 rfl ?_
  refine jv_vI0 (As := []) C lk_L_110 rfl dL_law_712 rfl rfl (by decide) (by omega) (by omega) (Nat.le_of_ble_eq_true rfl) h (fun _ _ h => ct_X10_isStopped h) (fun v4 M3 h => ?_)
  refine jv_icmp_eq (tgt := 1440) C dL_law_715 (by decide) h (fun h => ?_) (fun h => ?_)
  · cases h
    refine jv_widen (ce' := ce + 1) (sl' := sl + 6) (by omega) (by omega) ?_
    exact kk _
  · refine jv_iconst (v := 0) C dL_law_718 (by decide) ?_
    exact jv_no h
def fn_law_18 (N L : Nat) (xs : Nat → Int32) (M : Mem) (i : Int32) (a1 a2 a3 : Nat) : Option Mem :=
  (sc_ld L xs (i + 1)).bind fun v1 =>
  (mm_ck M a1 9).bind fun _ => mm_b2 (fn_X9_binCoins N M a1 v1) fun v3 M2 =>
  (sc_ld L xs (i + 1)).bind fun v4 =>
  (mm_ck M2 a2 10).bind fun _ => mm_b2 (fn_X10_binCoins N M2 a2 v4) fun v6 M5 =>
  if v3 = v6 then
    some M5
  else
    none
set_option maxRecDepth 100000 in
set_option maxHeartbeats 4000000 in
theorem bk_law_18 {Γ : Gm} {ω : Wd} {Q : State → Prop} {k N L : Nat} {xs : Nat → Int32} (hst : Γ.2.1.stackTraces = false) (C : Cx Γ cL_law 7 RL ω 840 601024 7293034) (SC : Sx Γ ω L xs) {M M' : Mem} {i : Int32} {a1 a2 a3 ce sl : Nat} (hce : ce + 1 ≤ 601024) (hsl : sl + 6 ≤ 7293034) (h : fn_law_18 N L xs M i a1 a2 a3 = some M') (kk : ∀ k, JJ Γ Q 7 ω k M' (ce + 1) (sl + 6) 1440 [(0, .float 300), (1, .ref a1), (2, .ref a2), (3, .ref a3), (4, .int i)] []) : JJ Γ Q 7 ω k M ce sl 720 [(0, .float 300), (1, .ref a1), (2, .ref a2), (3, .ref a3), (4, .int i)] [] := by
  unfold fn_law_18 at h
  refine jv_aload_n C dL_law_720 rfl 1 rfl ?_
  refine jv_sload_n C dL_law_721 rfl 0 rfl ?_
  refine jv_iload C dL_law_722 4 rfl ?_
  refine jv_iconst (v := 1) C dL_law_724 (by decide) ?_
  refine jv_iadd C dL_law_725 ?_
  refine jv_sld C SC dL_law_726 h (fun v1 h => ?_)
  refine jv_vI0 (As := [.int v1]) C lk_L_111 rfl dL_law_727 rfl rfl (by decide) (by omega) (by omega) (Nat.le_of_ble_eq_true rfl) h (fun _ _ h => ct_X9_binCoins h) (fun v3 M2 h => ?_)
  refine jv_aload_n C dL_law_730 rfl 2 rfl ?_
  refine jv_sload_n C dL_law_731 rfl 0 rfl ?_
  refine jv_iload C dL_law_732 4 rfl ?_
  refine jv_iconst (v := 1) C dL_law_734 (by decide) ?_
  refine jv_iadd C dL_law_735 ?_
  refine jv_sld C SC dL_law_736 h (fun v4 h => ?_)
  refine jv_vI0 (As := [.int v4]) C lk_L_114 rfl dL_law_737 rfl rfl (by decide) (by omega) (by omega) (Nat.le_of_ble_eq_true rfl) h (fun _ _ h => ct_X10_binCoins h) (fun v6 M5 h => ?_)
  refine jv_icmp_eq (tgt := 1440) C dL_law_740 (by decide) h (fun h => ?_) (fun h => ?_)
  · cases h
    refine jv_widen (ce' := ce + 1) (sl' := sl + 6) (by omega) (by omega) ?_
    exact kk _
  · refine jv_iconst (v := 0) C dL_law_743 (by decide) ?_
    exact jv_no h
def fn_law_19 (N L : Nat) (xs : Nat → Int32) (M : Mem) (i : Int32) (a1 a2 a3 : Nat) : Option Mem :=
  (sc_ld L xs (i + 1)).bind fun v1 =>
  (mm_ck M a1 9).bind fun _ => mm_b2 (fn_X9_binFor N M a1 v1) fun v3 M2 =>
  (sc_ld L xs (i + 1)).bind fun v4 =>
  (mm_ck M2 a2 10).bind fun _ => mm_b2 (fn_X10_binFor N M2 a2 v4) fun v6 M5 =>
  if v3 = v6 then
    some M5
  else
    none
set_option maxRecDepth 100000 in
set_option maxHeartbeats 4000000 in
theorem bk_law_19 {Γ : Gm} {ω : Wd} {Q : State → Prop} {k N L : Nat} {xs : Nat → Int32} (hst : Γ.2.1.stackTraces = false) (C : Cx Γ cL_law 7 RL ω 840 601024 7293034) (SC : Sx Γ ω L xs) {M M' : Mem} {i : Int32} {a1 a2 a3 ce sl : Nat} (hce : ce + 1 ≤ 601024) (hsl : sl + 6 ≤ 7293034) (h : fn_law_19 N L xs M i a1 a2 a3 = some M') (kk : ∀ k, JJ Γ Q 7 ω k M' (ce + 1) (sl + 6) 1440 [(0, .float 300), (1, .ref a1), (2, .ref a2), (3, .ref a3), (4, .int i)] []) : JJ Γ Q 7 ω k M ce sl 745 [(0, .float 300), (1, .ref a1), (2, .ref a2), (3, .ref a3), (4, .int i)] [] := by
  unfold fn_law_19 at h
  refine jv_aload_n C dL_law_745 rfl 1 rfl ?_
  refine jv_sload_n C dL_law_746 rfl 0 rfl ?_
  refine jv_iload C dL_law_747 4 rfl ?_
  refine jv_iconst (v := 1) C dL_law_749 (by decide) ?_
  refine jv_iadd C dL_law_750 ?_
  refine jv_sld C SC dL_law_751 h (fun v1 h => ?_)
  refine jv_vI0 (As := [.int v1]) C lk_L_115 rfl dL_law_752 rfl rfl (by decide) (by omega) (by omega) (Nat.le_of_ble_eq_true rfl) h (fun _ _ h => ct_X9_binFor h) (fun v3 M2 h => ?_)
  refine jv_aload_n C dL_law_755 rfl 2 rfl ?_
  refine jv_sload_n C dL_law_756 rfl 0 rfl ?_
  refine jv_iload C dL_law_757 4 rfl ?_
  refine jv_iconst (v := 1) C dL_law_759 (by decide) ?_
  refine jv_iadd C dL_law_760 ?_
  refine jv_sld C SC dL_law_761 h (fun v4 h => ?_)
  refine jv_vI0 (As := [.int v4]) C lk_L_118 rfl dL_law_762 rfl rfl (by decide) (by omega) (by omega) (Nat.le_of_ble_eq_true rfl) h (fun _ _ h => ct_X10_binFor h) (fun v6 M5 h => ?_)
  refine jv_icmp_eq (tgt := 1440) C dL_law_765 (by decide) h (fun h => ?_) (fun h => ?_)
  · cases h
    refine jv_widen (ce' := ce + 1) (sl' := sl + 6) (by omega) (by omega) ?_
    exact kk _
  · refine jv_iconst (v := 0) C dL_law_768 (by decide) ?_
    exact jv_no h
def fn_law_20 (N L : Nat) (xs : Nat → Int32) (M : Mem) (i : Int32) (a1 a2 a3 : Nat) : Option Mem :=
  (sc_ld L xs (i + 1)).bind fun v1 =>
  (mm_ck M a1 9).bind fun _ => mm_b2 (fn_X9_rejected N M a1 v1) fun v3 M2 =>
  (sc_ld L xs (i + 1)).bind fun v4 =>
  (mm_ck M2 a2 10).bind fun _ => mm_b2 (fn_X10_rejected N M2 a2 v4) fun v6 M5 =>
  if v3 = v6 then
    some M5
  else
    none
set_option maxRecDepth 100000 in
set_option maxHeartbeats 4000000 in
theorem bk_law_20 {Γ : Gm} {ω : Wd} {Q : State → Prop} {k N L : Nat} {xs : Nat → Int32} (hst : Γ.2.1.stackTraces = false) (C : Cx Γ cL_law 7 RL ω 840 601024 7293034) (SC : Sx Γ ω L xs) {M M' : Mem} {i : Int32} {a1 a2 a3 ce sl : Nat} (hce : ce + 1 ≤ 601024) (hsl : sl + 6 ≤ 7293034) (h : fn_law_20 N L xs M i a1 a2 a3 = some M') (kk : ∀ k, JJ Γ Q 7 ω k M' (ce + 1) (sl + 6) 1440 [(0, .float 300), (1, .ref a1), (2, .ref a2), (3, .ref a3), (4, .int i)] []) : JJ Γ Q 7 ω k M ce sl 770 [(0, .float 300), (1, .ref a1), (2, .ref a2), (3, .ref a3), (4, .int i)] [] := by
  unfold fn_law_20 at h
  refine jv_aload_n C dL_law_770 rfl 1 rfl ?_
  refine jv_sload_n C dL_law_771 rfl 0 rfl ?_
  refine jv_iload C dL_law_772 4 rfl ?_
  refine jv_iconst (v := 1) C dL_law_774 (by decide) ?_
  refine jv_iadd C dL_law_775 ?_
  refine jv_sld C SC dL_law_776 h (fun v1 h => ?_)
  refine jv_vI0 (As := [.int v1]) C lk_L_119 rfl dL_law_777 rfl rfl (by decide) (by omega) (by omega) (Nat.le_of_ble_eq_true rfl) h (fun _ _ h => ct_X9_rejected h) (fun v3 M2 h => ?_)
  refine jv_aload_n C dL_law_780 rfl 2 rfl ?_
  refine jv_sload_n C dL_law_781 rfl 0 rfl ?_
  refine jv_iload C dL_law_782 4 rfl ?_
  refine jv_iconst (v := 1) C dL_law_784 (by decide) ?_
  refine jv_iadd C dL_law_785 ?_
  refine jv_sld C SC dL_law_786 h (fun v4 h => ?_)
  refine jv_vI0 (As := [.int v4]) C lk_L_122 rfl dL_law_787 rfl rfl (by decide) (by omega) (by omega) (Nat.le_of_ble_eq_true rfl) h (fun _ _ h => ct_X10_rejected h) (fun v6 M5 h => ?_)
  refine jv_icmp_eq (tgt := 1440) C dL_law_790 (by decide) h (fun h => ?_) (fun h => ?_)
  · cases h
    refine jv_widen (ce' := ce + 1) (sl' := sl + 6) (by omega) (by omega) ?_
    exact kk _
  · refine jv_iconst (v := 0) C dL_law_793 (by decide) ?_
    exact jv_no h
def fn_law_21 (N L : Nat) (xs : Nat → Int32) (M : Mem) (i : Int32) (a1 a2 a3 : Nat) : Option Mem :=
  (mm_ck M a1 9).bind fun _ => mm_b2 (fn_X9_stepCount N M a1) fun v2 M1 =>
  (mm_ck M1 a2 10).bind fun _ => mm_b2 (fn_X10_stepCount N M1 a2) fun v4 M3 =>
  if v2 = v4 then
    some M3
  else
    none
set_option maxRecDepth 100000 in
set_option maxHeartbeats 4000000 in
theorem bk_law_21 {Γ : Gm} {ω : Wd} {Q : State → Prop} {k N L : Nat} {xs : Nat → Int32} (hst : Γ.2.1.stackTraces = false) (C : Cx Γ cL_law 7 RL ω 840 601024 7293034) (SC : Sx Γ ω L xs) {M M' : Mem} {i : Int32} {a1 a2 a3 ce sl : Nat} (hce : ce + 1 ≤ 601024) (hsl : sl + 6 ≤ 7293034) (h : fn_law_21 N L xs M i a1 a2 a3 = some M') (kk : ∀ k, JJ Γ Q 7 ω k M' (ce + 1) (sl + 6) 1440 [(0, .float 300), (1, .ref a1), (2, .ref a2), (3, .ref a3), (4, .int i)] []) : JJ Γ Q 7 ω k M ce sl 795 [(0, .float 300), (1, .ref a1), (2, .ref a2), (3, .ref a3), (4, .int i)] [] := by
  unfold fn_law_21 at h
  refine jv_aload_n C dL_law_795 rfl 1 rfl ?_
  refine jv_vI0 (As := []) C lk_L_123 rfl dL_law_796 rfl rfl (by decide) (by omega) (by omega) (Nat.le_of_ble_eq_true rfl) h (fun _ _ h => ct_X9_stepCount h) (fun v2 M1 h => ?_)
  refine jv_aload_n C dL_law_799 rfl 2 rfl ?_
  refine jv_vI0 (As := []) C lk_L_126 rfl dL_law_800 rfl rfl (by decide) (by omega) (by omega) (Nat.le_of_ble_eq_true rfl) h (fun _ _ h => ct_X10_stepCount h) (fun v4 M3 h => ?_)
  refine jv_icmp_eq (tgt := 1440) C dL_law_803 (by decide) h (fun h => ?_) (fun h => ?_)
  · cases h
    refine jv_widen (ce' := ce + 1) (sl' := sl + 6) (by omega) (by omega) ?_
    exact kk _
  · refine jv_iconst (v := 0) C dL_law_806 (by decide) ?_
    exact jv_no h
def fn_law_22 (N L : Nat) (xs : Nat → Int32) (M : Mem) (i : Int32) (a1 a2 a3 : Nat) : Option Mem :=
  (sc_ld L xs (i + 1)).bind fun v1 =>
  (mm_ck M a1 9).bind fun _ => mm_b2 (fn_X9_record N M a1 v1) fun v3 M2 =>
  (sc_ld L xs (i + 1)).bind fun v4 =>
  (mm_ck M2 a2 10).bind fun _ => mm_b2 (fn_X10_record N M2 a2 v4) fun v6 M5 =>
  if v3 = v6 then
    some M5
  else
    none
set_option maxRecDepth 100000 in
set_option maxHeartbeats 4000000 in
theorem bk_law_22 {Γ : Gm} {ω : Wd} {Q : State → Prop} {k N L : Nat} {xs : Nat → Int32} (hst : Γ.2.1.stackTraces = false) (C : Cx Γ cL_law 7 RL ω 840 601024 7293034) (SC : Sx Γ ω L xs) {M M' : Mem} {i : Int32} {a1 a2 a3 ce sl : Nat} (hce : ce + 1 ≤ 601024) (hsl : sl + 6 ≤ 7293034) (h : fn_law_22 N L xs M i a1 a2 a3 = some M') (kk : ∀ k, JJ Γ Q 7 ω k M' (ce + 1) (sl + 6) 1440 [(0, .float 300), (1, .ref a1), (2, .ref a2), (3, .ref a3), (4, .int i)] []) : JJ Γ Q 7 ω k M ce sl 808 [(0, .float 300), (1, .ref a1), (2, .ref a2), (3, .ref a3), (4, .int i)] [] := by
  unfold fn_law_22 at h
  refine jv_aload_n C dL_law_808 rfl 1 rfl ?_
  refine jv_sload_n C dL_law_809 rfl 0 rfl ?_
  refine jv_iload C dL_law_810 4 rfl ?_
  refine jv_iconst (v := 1) C dL_law_812 (by decide) ?_
  refine jv_iadd C dL_law_813 ?_
  refine jv_sld C SC dL_law_814 h (fun v1 h => ?_)
  refine jv_vI0 (As := [.int v1]) C lk_L_127 rfl dL_law_815 rfl rfl (by decide) (by omega) (by omega) (Nat.le_of_ble_eq_true rfl) h (fun _ _ h => ct_X9_record h) (fun v3 M2 h => ?_)
  refine jv_aload_n C dL_law_818 rfl 2 rfl ?_
  refine jv_sload_n C dL_law_819 rfl 0 rfl ?_
  refine jv_iload C dL_law_820 4 rfl ?_
  refine jv_iconst (v := 1) C dL_law_822 (by decide) ?_
  refine jv_iadd C dL_law_823 ?_
  refine jv_sld C SC dL_law_824 h (fun v4 h => ?_)
  refine jv_vI0 (As := [.int v4]) C lk_L_130 rfl dL_law_825 rfl rfl (by decide) (by omega) (by omega) (Nat.le_of_ble_eq_true rfl) h (fun _ _ h => ct_X10_record h) (fun v6 M5 h => ?_)
  refine jv_icmp_eq (tgt := 1440) C dL_law_828 (by decide) h (fun h => ?_) (fun h => ?_)
  · cases h
    refine jv_widen (ce' := ce + 1) (sl' := sl + 6) (by omega) (by omega) ?_
    exact kk _
  · refine jv_iconst (v := 0) C dL_law_831 (by decide) ?_
    exact jv_no h
def fn_law_23 (N L : Nat) (xs : Nat → Int32) (M : Mem) (i : Int32) (a1 a2 a3 : Nat) : Option Mem :=
  (mm_ck M a1 9).bind fun _ => mm_b2 (fn_X9_binValue N M a1) fun v2 M1 =>
  (mm_ck M1 a2 10).bind fun _ => mm_b2 (fn_X10_binValue N M1 a2) fun v4 M3 =>
  if v2 = v4 then
    some M3
  else
    none
set_option maxRecDepth 100000 in
set_option maxHeartbeats 4000000 in
theorem bk_law_23 {Γ : Gm} {ω : Wd} {Q : State → Prop} {k N L : Nat} {xs : Nat → Int32} (hst : Γ.2.1.stackTraces = false) (C : Cx Γ cL_law 7 RL ω 840 601024 7293034) (SC : Sx Γ ω L xs) {M M' : Mem} {i : Int32} {a1 a2 a3 ce sl : Nat} (hce : ce + 1 ≤ 601024) (hsl : sl + 6 ≤ 7293034) (h : fn_law_23 N L xs M i a1 a2 a3 = some M') (kk : ∀ k, JJ Γ Q 7 ω k M' (ce + 1) (sl + 6) 1440 [(0, .float 300), (1, .ref a1), (2, .ref a2), (3, .ref a3), (4, .int i)] []) : JJ Γ Q 7 ω k M ce sl 833 [(0, .float 300), (1, .ref a1), (2, .ref a2), (3, .ref a3), (4, .int i)] [] := by
  unfold fn_law_23 at h
  refine jv_aload_n C dL_law_833 rfl 1 rfl ?_
  refine jv_vI0 (As := []) C lk_L_131 rfl dL_law_834 rfl rfl (by decide) (by omega) (by omega) (Nat.le_of_ble_eq_true rfl) h (fun _ _ h => ct_X9_binValue h) (fun v2 M1 h => ?_)
  refine jv_aload_n C dL_law_837 rfl 2 rfl ?_
  refine jv_vI0 (As := []) C lk_L_134 rfl dL_law_838 rfl rfl (by decide) (by omega) (by omega) (Nat.le_of_ble_eq_true rfl) h (fun _ _ h => ct_X10_binValue h) (fun v4 M3 h => ?_)
  refine jv_icmp_eq (tgt := 1440) C dL_law_841 (by decide) h (fun h => ?_) (fun h => ?_)
  · cases h
    refine jv_widen (ce' := ce + 1) (sl' := sl + 6) (by omega) (by omega) ?_
    exact kk _
  · refine jv_iconst (v := 0) C dL_law_844 (by decide) ?_
    exact jv_no h
def fn_law_24 (N L : Nat) (xs : Nat → Int32) (M : Mem) (i : Int32) (a1 a2 a3 : Nat) : Option Mem :=
  (mm_ck M a1 9).bind fun _ => mm_b2 (fn_X9_bagCount N M a1) fun v2 M1 =>
  (mm_ck M1 a2 10).bind fun _ => mm_b2 (fn_X10_bagCount N M1 a2) fun v4 M3 =>
  if v2 = v4 then
    some M3
  else
    none
set_option maxRecDepth 100000 in
set_option maxHeartbeats 4000000 in
theorem bk_law_24 {Γ : Gm} {ω : Wd} {Q : State → Prop} {k N L : Nat} {xs : Nat → Int32} (hst : Γ.2.1.stackTraces = false) (C : Cx Γ cL_law 7 RL ω 840 601024 7293034) (SC : Sx Γ ω L xs) {M M' : Mem} {i : Int32} {a1 a2 a3 ce sl : Nat} (hce : ce + 1 ≤ 601024) (hsl : sl + 6 ≤ 7293034) (h : fn_law_24 N L xs M i a1 a2 a3 = some M') (kk : ∀ k, JJ Γ Q 7 ω k M' (ce + 1) (sl + 6) 1440 [(0, .float 300), (1, .ref a1), (2, .ref a2), (3, .ref a3), (4, .int i)] []) : JJ Γ Q 7 ω k M ce sl 846 [(0, .float 300), (1, .ref a1), (2, .ref a2), (3, .ref a3), (4, .int i)] [] := by
  unfold fn_law_24 at h
  refine jv_aload_n C dL_law_846 rfl 1 rfl ?_
  refine jv_vI0 (As := []) C lk_L_135 rfl dL_law_847 rfl rfl (by decide) (by omega) (by omega) (Nat.le_of_ble_eq_true rfl) h (fun _ _ h => ct_X9_bagCount h) (fun v2 M1 h => ?_)
  refine jv_aload_n C dL_law_850 rfl 2 rfl ?_
  refine jv_vI0 (As := []) C lk_L_138 rfl dL_law_851 rfl rfl (by decide) (by omega) (by omega) (Nat.le_of_ble_eq_true rfl) h (fun _ _ h => ct_X10_bagCount h) (fun v4 M3 h => ?_)
  refine jv_icmp_eq (tgt := 1440) C dL_law_854 (by decide) h (fun h => ?_) (fun h => ?_)
  · cases h
    refine jv_widen (ce' := ce + 1) (sl' := sl + 6) (by omega) (by omega) ?_
    exact kk _
  · refine jv_iconst (v := 0) C dL_law_857 (by decide) ?_
    exact jv_no h
def fn_law_25 (N L : Nat) (xs : Nat → Int32) (M : Mem) (i : Int32) (a1 a2 a3 : Nat) : Option Mem :=
  (sc_ld L xs (i + 1)).bind fun v1 =>
  (mm_ck M a1 9).bind fun _ => mm_b2 (fn_X9_bagType N M a1 v1) fun v3 M2 =>
  (sc_ld L xs (i + 1)).bind fun v4 =>
  (mm_ck M2 a2 10).bind fun _ => mm_b2 (fn_X10_bagType N M2 a2 v4) fun v6 M5 =>
  if v3 = v6 then
    some M5
  else
    none
set_option maxRecDepth 100000 in
set_option maxHeartbeats 4000000 in
theorem bk_law_25 {Γ : Gm} {ω : Wd} {Q : State → Prop} {k N L : Nat} {xs : Nat → Int32} (hst : Γ.2.1.stackTraces = false) (C : Cx Γ cL_law 7 RL ω 840 601024 7293034) (SC : Sx Γ ω L xs) {M M' : Mem} {i : Int32} {a1 a2 a3 ce sl : Nat} (hce : ce + 1 ≤ 601024) (hsl : sl + 6 ≤ 7293034) (h : fn_law_25 N L xs M i a1 a2 a3 = some M') (kk : ∀ k, JJ Γ Q 7 ω k M' (ce + 1) (sl + 6) 1440 [(0, .float 300), (1, .ref a1), (2, .ref a2), (3, .ref a3), (4, .int i)] []) : JJ Γ Q 7 ω k M ce sl 859 [(0, .float 300), (1, .ref a1), (2, .ref a2), (3, .ref a3), (4, .int i)] [] := by
  unfold fn_law_25 at h
  refine jv_aload_n C dL_law_859 rfl 1 rfl ?_
  refine jv_sload_n C dL_law_860 rfl 0 rfl ?_
  refine jv_iload C dL_law_861 4 rfl ?_
  refine jv_iconst (v := 1) C dL_law_863 (by decide) ?_
  refine jv_iadd C dL_law_864 ?_
  refine jv_sld C SC dL_law_865 h (fun v1 h => ?_)
  refine jv_vI0 (As := [.int v1]) C lk_L_139 rfl dL_law_866 rfl rfl (by decide) (by omega) (by omega) (Nat.le_of_ble_eq_true rfl) h (fun _ _ h => ct_X9_bagType h) (fun v3 M2 h => ?_)
  refine jv_aload_n C dL_law_869 rfl 2 rfl ?_
  refine jv_sload_n C dL_law_870 rfl 0 rfl ?_
  refine jv_iload C dL_law_871 4 rfl ?_
  refine jv_iconst (v := 1) C dL_law_873 (by decide) ?_
  refine jv_iadd C dL_law_874 ?_
  refine jv_sld C SC dL_law_875 h (fun v4 h => ?_)
  refine jv_vI0 (As := [.int v4]) C lk_L_142 rfl dL_law_876 rfl rfl (by decide) (by omega) (by omega) (Nat.le_of_ble_eq_true rfl) h (fun _ _ h => ct_X10_bagType h) (fun v6 M5 h => ?_)
  refine jv_icmp_eq (tgt := 1440) C dL_law_879 (by decide) h (fun h => ?_) (fun h => ?_)
  · cases h
    refine jv_widen (ce' := ce + 1) (sl' := sl + 6) (by omega) (by omega) ?_
    exact kk _
  · refine jv_iconst (v := 0) C dL_law_882 (by decide) ?_
    exact jv_no h
def fn_law_26 (N L : Nat) (xs : Nat → Int32) (M : Mem) (i : Int32) (a1 a2 a3 : Nat) : Option Mem :=
  (sc_ld L xs (i + 1)).bind fun v1 =>
  (mm_ck M a1 9).bind fun _ => mm_b2 (fn_X9_bagCoins N M a1 v1) fun v3 M2 =>
  (sc_ld L xs (i + 1)).bind fun v4 =>
  (mm_ck M2 a2 10).bind fun _ => mm_b2 (fn_X10_bagCoins N M2 a2 v4) fun v6 M5 =>
  if v3 = v6 then
    some M5
  else
    none
set_option maxRecDepth 100000 in
set_option maxHeartbeats 4000000 in
theorem bk_law_26 {Γ : Gm} {ω : Wd} {Q : State → Prop} {k N L : Nat} {xs : Nat → Int32} (hst : Γ.2.1.stackTraces = false) (C : Cx Γ cL_law 7 RL ω 840 601024 7293034) (SC : Sx Γ ω L xs) {M M' : Mem} {i : Int32} {a1 a2 a3 ce sl : Nat} (hce : ce + 1 ≤ 601024) (hsl : sl + 6 ≤ 7293034) (h : fn_law_26 N L xs M i a1 a2 a3 = some M') (kk : ∀ k, JJ Γ Q 7 ω k M' (ce + 1) (sl + 6) 1440 [(0, .float 300), (1, .ref a1), (2, .ref a2), (3, .ref a3), (4, .int i)] []) : JJ Γ Q 7 ω k M ce sl 884 [(0, .float 300), (1, .ref a1), (2, .ref a2), (3, .ref a3), (4, .int i)] [] := by
  unfold fn_law_26 at h
  refine jv_aload_n C dL_law_884 rfl 1 rfl ?_
  refine jv_sload_n C dL_law_885 rfl 0 rfl ?_
  refine jv_iload C dL_law_886 4 rfl ?_
  refine jv_iconst (v := 1) C dL_law_888 (by decide) ?_
  refine jv_iadd C dL_law_889 ?_
  refine jv_sld C SC dL_law_890 h (fun v1 h => ?_)
  refine jv_vI0 (As := [.int v1]) C lk_L_143 rfl dL_law_891 rfl rfl (by decide) (by omega) (by omega) (Nat.le_of_ble_eq_true rfl) h (fun _ _ h => ct_X9_bagCoins h) (fun v3 M2 h => ?_)
  refine jv_aload_n C dL_law_894 rfl 2 rfl ?_
  refine jv_sload_n C dL_law_895 rfl 0 rfl ?_
  refine jv_iload C dL_law_896 4 rfl ?_
  refine jv_iconst (v := 1) C dL_law_898 (by decide) ?_
  refine jv_iadd C dL_law_899 ?_
  refine jv_sld C SC dL_law_900 h (fun v4 h => ?_)
  refine jv_vI0 (As := [.int v4]) C lk_L_146 rfl dL_law_901 rfl rfl (by decide) (by omega) (by omega) (Nat.le_of_ble_eq_true rfl) h (fun _ _ h => ct_X10_bagCoins h) (fun v6 M5 h => ?_)
  refine jv_icmp_eq (tgt := 1440) C dL_law_904 (by decide) h (fun h => ?_) (fun h => ?_)
  · cases h
    refine jv_widen (ce' := ce + 1) (sl' := sl + 6) (by omega) (by omega) ?_
    exact kk _
  · refine jv_iconst (v := 0) C dL_law_907 (by decide) ?_
    exact jv_no h
def fn_law_27 (N L : Nat) (xs : Nat → Int32) (M : Mem) (i : Int32) (a1 a2 a3 : Nat) : Option Mem :=
  (mm_ck M a1 9).bind fun _ => mm_b2 (fn_X9_discrepancy N M a1) fun v2 M1 =>
  (mm_ck M1 a2 10).bind fun _ => mm_b2 (fn_X10_discrepancy N M1 a2) fun v4 M3 =>
  if v2 = v4 then
    some M3
  else
    none
set_option maxRecDepth 100000 in
set_option maxHeartbeats 4000000 in
theorem bk_law_27 {Γ : Gm} {ω : Wd} {Q : State → Prop} {k N L : Nat} {xs : Nat → Int32} (hst : Γ.2.1.stackTraces = false) (C : Cx Γ cL_law 7 RL ω 840 601024 7293034) (SC : Sx Γ ω L xs) {M M' : Mem} {i : Int32} {a1 a2 a3 ce sl : Nat} (hce : ce + 1 ≤ 601024) (hsl : sl + 6 ≤ 7293034) (h : fn_law_27 N L xs M i a1 a2 a3 = some M') (kk : ∀ k, JJ Γ Q 7 ω k M' (ce + 1) (sl + 6) 1440 [(0, .float 300), (1, .ref a1), (2, .ref a2), (3, .ref a3), (4, .int i)] []) : JJ Γ Q 7 ω k M ce sl 909 [(0, .float 300), (1, .ref a1), (2, .ref a2), (3, .ref a3), (4, .int i)] [] := by
  unfold fn_law_27 at h
  refine jv_aload_n C dL_law_909 rfl 1 rfl ?_
  refine jv_vI0 (As := []) C lk_L_147 rfl dL_law_910 rfl rfl (by decide) (by omega) (by omega) (Nat.le_of_ble_eq_true rfl) h (fun _ _ h => ct_X9_discrepancy h) (fun v2 M1 h => ?_)
  refine jv_aload_n C dL_law_913 rfl 2 rfl ?_
  refine jv_vI0 (As := []) C lk_L_150 rfl dL_law_914 rfl rfl (by decide) (by omega) (by omega) (Nat.le_of_ble_eq_true rfl) h (fun _ _ h => ct_X10_discrepancy h) (fun v4 M3 h => ?_)
  refine jv_icmp_eq (tgt := 1440) C dL_law_917 (by decide) h (fun h => ?_) (fun h => ?_)
  · cases h
    refine jv_widen (ce' := ce + 1) (sl' := sl + 6) (by omega) (by omega) ?_
    exact kk _
  · refine jv_iconst (v := 0) C dL_law_920 (by decide) ?_
    exact jv_no h
def fn_law_28 (N L : Nat) (xs : Nat → Int32) (M : Mem) (i : Int32) (a1 a2 a3 : Nat) : Option Mem :=
  (mm_ck M a1 9).bind fun _ => mm_b2 (fn_X9_worstBag N M a1) fun v2 M1 =>
  (mm_ck M1 a2 10).bind fun _ => mm_b2 (fn_X10_worstBag N M1 a2) fun v4 M3 =>
  if v2 = v4 then
    some M3
  else
    none
set_option maxRecDepth 100000 in
set_option maxHeartbeats 4000000 in
theorem bk_law_28 {Γ : Gm} {ω : Wd} {Q : State → Prop} {k N L : Nat} {xs : Nat → Int32} (hst : Γ.2.1.stackTraces = false) (C : Cx Γ cL_law 7 RL ω 840 601024 7293034) (SC : Sx Γ ω L xs) {M M' : Mem} {i : Int32} {a1 a2 a3 ce sl : Nat} (hce : ce + 1 ≤ 601024) (hsl : sl + 6 ≤ 7293034) (h : fn_law_28 N L xs M i a1 a2 a3 = some M') (kk : ∀ k, JJ Γ Q 7 ω k M' (ce + 1) (sl + 6) 1440 [(0, .float 300), (1, .ref a1), (2, .ref a2), (3, .ref a3), (4, .int i)] []) : JJ Γ Q 7 ω k M ce sl 922 [(0, .float 300), (1, .ref a1), (2, .ref a2), (3, .ref a3), (4, .int i)] [] := by
  unfold fn_law_28 at h
  refine jv_aload_n C dL_law_922 rfl 1 rfl ?_
  refine jv_vI0 (As := []) C lk_L_151 rfl dL_law_923 rfl rfl (by decide) (by omega) (by omega) (Nat.le_of_ble_eq_true rfl) h (fun _ _ h => ct_X9_worstBag h) (fun v2 M1 h => ?_)
  refine jv_aload_n C dL_law_926 rfl 2 rfl ?_
  refine jv_vI0 (As := []) C lk_L_154 rfl dL_law_927 rfl rfl (by decide) (by omega) (by omega) (Nat.le_of_ble_eq_true rfl) h (fun _ _ h => ct_X10_worstBag h) (fun v4 M3 h => ?_)
  refine jv_icmp_eq (tgt := 1440) C dL_law_930 (by decide) h (fun h => ?_) (fun h => ?_)
  · cases h
    refine jv_widen (ce' := ce + 1) (sl' := sl + 6) (by omega) (by omega) ?_
    exact kk _
  · refine jv_iconst (v := 0) C dL_law_933 (by decide) ?_
    exact jv_no h
def fn_law_29 (N L : Nat) (xs : Nat → Int32) (M : Mem) (i : Int32) (a1 a2 a3 : Nat) : Option Mem :=
  (sc_ld L xs (i + 1)).bind fun v1 =>
  (mm_ck M a1 9).bind fun _ => mm_b2 (fn_X9_payoutCoins N M a1 v1) fun v3 M2 =>
  (sc_ld L xs (i + 1)).bind fun v4 =>
  (mm_ck M2 a2 10).bind fun _ => mm_b2 (fn_X10_payoutCoins N M2 a2 v4) fun v6 M5 =>
  if v3 = v6 then
    some M5
  else
    none
set_option maxRecDepth 100000 in
set_option maxHeartbeats 4000000 in
theorem bk_law_29 {Γ : Gm} {ω : Wd} {Q : State → Prop} {k N L : Nat} {xs : Nat → Int32} (hst : Γ.2.1.stackTraces = false) (C : Cx Γ cL_law 7 RL ω 840 601024 7293034) (SC : Sx Γ ω L xs) {M M' : Mem} {i : Int32} {a1 a2 a3 ce sl : Nat} (hce : ce + 1 ≤ 601024) (hsl : sl + 6 ≤ 7293034) (h : fn_law_29 N L xs M i a1 a2 a3 = some M') (kk : ∀ k, JJ Γ Q 7 ω k M' (ce + 1) (sl + 6) 1440 [(0, .float 300), (1, .ref a1), (2, .ref a2), (3, .ref a3), (4, .int i)] []) : JJ Γ Q 7 ω k M ce sl 935 [(0, .float 300), (1, .ref a1), (2, .ref a2), (3, .ref a3), (4, .int i)] [] := by
  unfold fn_law_29 at h
  refine jv_aload_n C dL_law_935 rfl 1 rfl ?_
  refine jv_sload_n C dL_law_936 rfl 0 rfl ?_
  refine jv_iload C dL_law_937 4 rfl ?_
  refine jv_iconst (v := 1) C dL_law_939 (by decide) ?_
  refine jv_iadd C dL_law_940 ?_
  refine jv_sld C SC dL_law_941 h (fun v1 h => ?_)
  refine jv_vI0 (As := [.int v1]) C lk_L_155 rfl dL_law_942 rfl rfl (by decide) (by omega) (by omega) (Nat.le_of_ble_eq_true rfl) h (fun _ _ h => ct_X9_payoutCoins h) (fun v3 M2 h => ?_)
  refine jv_aload_n C dL_law_945 rfl 2 rfl ?_
  refine jv_sload_n C dL_law_946 rfl 0 rfl ?_
  refine jv_iload C dL_law_947 4 rfl ?_
  refine jv_iconst (v := 1) C dL_law_949 (by decide) ?_
  refine jv_iadd C dL_law_950 ?_
  refine jv_sld C SC dL_law_951 h (fun v4 h => ?_)
  refine jv_vI0 (As := [.int v4]) C lk_L_158 rfl dL_law_952 rfl rfl (by decide) (by omega) (by omega) (Nat.le_of_ble_eq_true rfl) h (fun _ _ h => ct_X10_payoutCoins h) (fun v6 M5 h => ?_)
  refine jv_icmp_eq (tgt := 1440) C dL_law_955 (by decide) h (fun h => ?_) (fun h => ?_)
  · cases h
    refine jv_widen (ce' := ce + 1) (sl' := sl + 6) (by omega) (by omega) ?_
    exact kk _
  · refine jv_iconst (v := 0) C dL_law_958 (by decide) ?_
    exact jv_no h
def fn_law_30 (N L : Nat) (xs : Nat → Int32) (M : Mem) (i : Int32) (a1 a2 a3 : Nat) : Option Mem :=
  (sc_ld L xs (i + 1)).bind fun v1 =>
  (sc_ld L xs (i + 2)).bind fun v2 =>
  (mm_ck M a1 9).bind fun _ => mm_b2 (fn_X9_payoutOf N M a1 v1 v2) fun v4 M3 =>
  (sc_ld L xs (i + 1)).bind fun v5 =>
  (sc_ld L xs (i + 2)).bind fun v6 =>
  (mm_ck M3 a2 10).bind fun _ => mm_b2 (fn_X10_payoutOf N M3 a2 v5 v6) fun v8 M7 =>
  if v4 = v8 then
    some M7
  else
    none
set_option maxRecDepth 100000 in
set_option maxHeartbeats 4000000 in
theorem bk_law_30 {Γ : Gm} {ω : Wd} {Q : State → Prop} {k N L : Nat} {xs : Nat → Int32} (hst : Γ.2.1.stackTraces = false) (C : Cx Γ cL_law 7 RL ω 840 601024 7293034) (SC : Sx Γ ω L xs) {M M' : Mem} {i : Int32} {a1 a2 a3 ce sl : Nat} (hce : ce + 1 ≤ 601024) (hsl : sl + 6 ≤ 7293034) (h : fn_law_30 N L xs M i a1 a2 a3 = some M') (kk : ∀ k, JJ Γ Q 7 ω k M' (ce + 1) (sl + 6) 1440 [(0, .float 300), (1, .ref a1), (2, .ref a2), (3, .ref a3), (4, .int i)] []) : JJ Γ Q 7 ω k M ce sl 960 [(0, .float 300), (1, .ref a1), (2, .ref a2), (3, .ref a3), (4, .int i)] [] := by
  unfold fn_law_30 at h
  refine jv_aload_n C dL_law_960 rfl 1 rfl ?_
  refine jv_sload_n C dL_law_961 rfl 0 rfl ?_
  refine jv_iload C dL_law_962 4 rfl ?_
  refine jv_iconst (v := 1) C dL_law_964 (by decide) ?_
  refine jv_iadd C dL_law_965 ?_
  refine jv_sld C SC dL_law_966 h (fun v1 h => ?_)
  refine jv_sload_n C dL_law_967 rfl 0 rfl ?_
  refine jv_iload C dL_law_968 4 rfl ?_
  refine jv_iconst (v := 2) C dL_law_970 (by decide) ?_
  refine jv_iadd C dL_law_971 ?_
  refine jv_sld C SC dL_law_972 h (fun v2 h => ?_)
  refine jv_vI0 (As := [.int v1, .int v2]) C lk_L_159 rfl dL_law_973 rfl rfl (by decide) (by omega) (by omega) (Nat.le_of_ble_eq_true rfl) h (fun _ _ h => ct_X9_payoutOf h) (fun v4 M3 h => ?_)
  refine jv_aload_n C dL_law_976 rfl 2 rfl ?_
  refine jv_sload_n C dL_law_977 rfl 0 rfl ?_
  refine jv_iload C dL_law_978 4 rfl ?_
  refine jv_iconst (v := 1) C dL_law_980 (by decide) ?_
  refine jv_iadd C dL_law_981 ?_
  refine jv_sld C SC dL_law_982 h (fun v5 h => ?_)
  refine jv_sload_n C dL_law_983 rfl 0 rfl ?_
  refine jv_iload C dL_law_984 4 rfl ?_
  refine jv_iconst (v := 2) C dL_law_986 (by decide) ?_
  refine jv_iadd C dL_law_987 ?_
  refine jv_sld C SC dL_law_988 h (fun v6 h => ?_)
  refine jv_vI0 (As := [.int v5, .int v6]) C lk_L_162 rfl dL_law_989 rfl rfl (by decide) (by omega) (by omega) (Nat.le_of_ble_eq_true rfl) h (fun _ _ h => ct_X10_payoutOf h) (fun v8 M7 h => ?_)
  refine jv_icmp_eq (tgt := 1440) C dL_law_992 (by decide) h (fun h => ?_) (fun h => ?_)
  · cases h
    refine jv_widen (ce' := ce + 1) (sl' := sl + 6) (by omega) (by omega) ?_
    exact kk _
  · refine jv_iconst (v := 0) C dL_law_995 (by decide) ?_
    exact jv_no h
def fn_law_31 (N L : Nat) (xs : Nat → Int32) (M : Mem) (i : Int32) (a1 a2 a3 : Nat) : Option Mem :=
  (mm_ck M a1 9).bind fun _ => mm_b2 (fn_X9_sampleCount N M a1) fun v2 M1 =>
  (mm_ck M1 a2 10).bind fun _ => mm_b2 (fn_X10_sampleCount N M1 a2) fun v4 M3 =>
  if v2 = v4 then
    some M3
  else
    none
set_option maxRecDepth 100000 in
set_option maxHeartbeats 4000000 in
theorem bk_law_31 {Γ : Gm} {ω : Wd} {Q : State → Prop} {k N L : Nat} {xs : Nat → Int32} (hst : Γ.2.1.stackTraces = false) (C : Cx Γ cL_law 7 RL ω 840 601024 7293034) (SC : Sx Γ ω L xs) {M M' : Mem} {i : Int32} {a1 a2 a3 ce sl : Nat} (hce : ce + 1 ≤ 601024) (hsl : sl + 6 ≤ 7293034) (h : fn_law_31 N L xs M i a1 a2 a3 = some M') (kk : ∀ k, JJ Γ Q 7 ω k M' (ce + 1) (sl + 6) 1440 [(0, .float 300), (1, .ref a1), (2, .ref a2), (3, .ref a3), (4, .int i)] []) : JJ Γ Q 7 ω k M ce sl 997 [(0, .float 300), (1, .ref a1), (2, .ref a2), (3, .ref a3), (4, .int i)] [] := by
  unfold fn_law_31 at h
  refine jv_aload_n C dL_law_997 rfl 1 rfl ?_
  refine jv_vI0 (As := []) C lk_L_163 rfl dL_law_998 rfl rfl (by decide) (by omega) (by omega) (Nat.le_of_ble_eq_true rfl) h (fun _ _ h => ct_X9_sampleCount h) (fun v2 M1 h => ?_)
  refine jv_aload_n C dL_law_1001 rfl 2 rfl ?_
  refine jv_vI0 (As := []) C lk_L_166 rfl dL_law_1002 rfl rfl (by decide) (by omega) (by omega) (Nat.le_of_ble_eq_true rfl) h (fun _ _ h => ct_X10_sampleCount h) (fun v4 M3 h => ?_)
  refine jv_icmp_eq (tgt := 1440) C dL_law_1005 (by decide) h (fun h => ?_) (fun h => ?_)
  · cases h
    refine jv_widen (ce' := ce + 1) (sl' := sl + 6) (by omega) (by omega) ?_
    exact kk _
  · refine jv_iconst (v := 0) C dL_law_1008 (by decide) ?_
    exact jv_no h
def fn_law_32 (N L : Nat) (xs : Nat → Int32) (M : Mem) (i : Int32) (a1 a2 a3 : Nat) : Option Mem :=
  (sc_ld L xs (i + 1)).bind fun v1 =>
  (mm_ck M a1 9).bind fun _ => mm_b2 (fn_X9_sampleCost N M a1 v1) fun v3 M2 =>
  (sc_ld L xs (i + 1)).bind fun v4 =>
  (mm_ck M2 a2 10).bind fun _ => mm_b2 (fn_X10_sampleCost N M2 a2 v4) fun v6 M5 =>
  if v3 = v6 then
    some M5
  else
    none
set_option maxRecDepth 100000 in
set_option maxHeartbeats 4000000 in
theorem bk_law_32 {Γ : Gm} {ω : Wd} {Q : State → Prop} {k N L : Nat} {xs : Nat → Int32} (hst : Γ.2.1.stackTraces = false) (C : Cx Γ cL_law 7 RL ω 840 601024 7293034) (SC : Sx Γ ω L xs) {M M' : Mem} {i : Int32} {a1 a2 a3 ce sl : Nat} (hce : ce + 1 ≤ 601024) (hsl : sl + 6 ≤ 7293034) (h : fn_law_32 N L xs M i a1 a2 a3 = some M') (kk : ∀ k, JJ Γ Q 7 ω k M' (ce + 1) (sl + 6) 1440 [(0, .float 300), (1, .ref a1), (2, .ref a2), (3, .ref a3), (4, .int i)] []) : JJ Γ Q 7 ω k M ce sl 1010 [(0, .float 300), (1, .ref a1), (2, .ref a2), (3, .ref a3), (4, .int i)] [] := by
  unfold fn_law_32 at h
  refine jv_aload_n C dL_law_1010 rfl 1 rfl ?_
  refine jv_sload_n C dL_law_1011 rfl 0 rfl ?_
  refine jv_iload C dL_law_1012 4 rfl ?_
  refine jv_iconst (v := 1) C dL_law_1014 (by decide) ?_
  refine jv_iadd C dL_law_1015 ?_
  refine jv_sld C SC dL_law_1016 h (fun v1 h => ?_)
  refine jv_vI0 (As := [.int v1]) C lk_L_167 rfl dL_law_1017 rfl rfl (by decide) (by omega) (by omega) (Nat.le_of_ble_eq_true rfl) h (fun _ _ h => ct_X9_sampleCost h) (fun v3 M2 h => ?_)
  refine jv_aload_n C dL_law_1020 rfl 2 rfl ?_
  refine jv_sload_n C dL_law_1021 rfl 0 rfl ?_
  refine jv_iload C dL_law_1022 4 rfl ?_
  refine jv_iconst (v := 1) C dL_law_1024 (by decide) ?_
  refine jv_iadd C dL_law_1025 ?_
  refine jv_sld C SC dL_law_1026 h (fun v4 h => ?_)
  refine jv_vI0 (As := [.int v4]) C lk_L_170 rfl dL_law_1027 rfl rfl (by decide) (by omega) (by omega) (Nat.le_of_ble_eq_true rfl) h (fun _ _ h => ct_X10_sampleCost h) (fun v6 M5 h => ?_)
  refine jv_icmp_eq (tgt := 1440) C dL_law_1030 (by decide) h (fun h => ?_) (fun h => ?_)
  · cases h
    refine jv_widen (ce' := ce + 1) (sl' := sl + 6) (by omega) (by omega) ?_
    exact kk _
  · refine jv_iconst (v := 0) C dL_law_1033 (by decide) ?_
    exact jv_no h
def fn_law_33 (N L : Nat) (xs : Nat → Int32) (M : Mem) (i : Int32) (a1 a2 a3 : Nat) : Option Mem :=
  (mm_ck M a1 9).bind fun _ => mm_b2 (fn_X9_bestMargin N M a1) fun v2 M1 =>
  (mm_ck M1 a2 10).bind fun _ => mm_b2 (fn_X10_bestMargin N M1 a2) fun v4 M3 =>
  if v2 = v4 then
    some M3
  else
    none
set_option maxRecDepth 100000 in
set_option maxHeartbeats 4000000 in
theorem bk_law_33 {Γ : Gm} {ω : Wd} {Q : State → Prop} {k N L : Nat} {xs : Nat → Int32} (hst : Γ.2.1.stackTraces = false) (C : Cx Γ cL_law 7 RL ω 840 601024 7293034) (SC : Sx Γ ω L xs) {M M' : Mem} {i : Int32} {a1 a2 a3 ce sl : Nat} (hce : ce + 1 ≤ 601024) (hsl : sl + 6 ≤ 7293034) (h : fn_law_33 N L xs M i a1 a2 a3 = some M') (kk : ∀ k, JJ Γ Q 7 ω k M' (ce + 1) (sl + 6) 1440 [(0, .float 300), (1, .ref a1), (2, .ref a2), (3, .ref a3), (4, .int i)] []) : JJ Γ Q 7 ω k M ce sl 1035 [(0, .float 300), (1, .ref a1), (2, .ref a2), (3, .ref a3), (4, .int i)] [] := by
  unfold fn_law_33 at h
  refine jv_aload_n C dL_law_1035 rfl 1 rfl ?_
  refine jv_vI0 (As := []) C lk_L_171 rfl dL_law_1036 rfl rfl (by decide) (by omega) (by omega) (Nat.le_of_ble_eq_true rfl) h (fun _ _ h => ct_X9_bestMargin h) (fun v2 M1 h => ?_)
  refine jv_aload_n C dL_law_1039 rfl 2 rfl ?_
  refine jv_vI0 (As := []) C lk_L_174 rfl dL_law_1040 rfl rfl (by decide) (by omega) (by omega) (Nat.le_of_ble_eq_true rfl) h (fun _ _ h => ct_X10_bestMargin h) (fun v4 M3 h => ?_)
  refine jv_icmp_eq (tgt := 1440) C dL_law_1043 (by decide) h (fun h => ?_) (fun h => ?_)
  · cases h
    refine jv_widen (ce' := ce + 1) (sl' := sl + 6) (by omega) (by omega) ?_
    exact kk _
  · refine jv_iconst (v := 0) C dL_law_1046 (by decide) ?_
    exact jv_no h
def fn_law_34 (N L : Nat) (xs : Nat → Int32) (M : Mem) (i : Int32) (a1 a2 a3 : Nat) : Option Mem :=
  (sc_ld L xs (i + 1)).bind fun v1 =>
  (sc_ld L xs (i + 2)).bind fun v2 =>
  (sc_ld L xs (i + 3)).bind fun v3 =>
  (mm_ck M a1 9).bind fun _ => mm_b2 (fn_X9_calibrate N M a1 v1 v2 v3) fun v5 M4 =>
  (sc_ld L xs (i + 1)).bind fun v6 =>
  (sc_ld L xs (i + 2)).bind fun v7 =>
  (sc_ld L xs (i + 3)).bind fun v8 =>
  (mm_ck M4 a2 10).bind fun _ => mm_b2 (fn_X10_calibrate N M4 a2 v6 v7 v8) fun v10 M9 =>
  if v5 = v10 then
    some M9
  else
    none
set_option maxRecDepth 100000 in
set_option maxHeartbeats 4000000 in
theorem bk_law_34 {Γ : Gm} {ω : Wd} {Q : State → Prop} {k N L : Nat} {xs : Nat → Int32} (hst : Γ.2.1.stackTraces = false) (C : Cx Γ cL_law 7 RL ω 840 601024 7293034) (SC : Sx Γ ω L xs) {M M' : Mem} {i : Int32} {a1 a2 a3 ce sl : Nat} (hce : ce + 1 ≤ 601024) (hsl : sl + 6 ≤ 7293034) (h : fn_law_34 N L xs M i a1 a2 a3 = some M') (kk : ∀ k, JJ Γ Q 7 ω k M' (ce + 1) (sl + 6) 1440 [(0, .float 300), (1, .ref a1), (2, .ref a2), (3, .ref a3), (4, .int i)] []) : JJ Γ Q 7 ω k M ce sl 1048 [(0, .float 300), (1, .ref a1), (2, .ref a2), (3, .ref a3), (4, .int i)] [] := by
  unfold fn_law_34 at h
  refine jv_aload_n C dL_law_1048 rfl 1 rfl ?_
  refine jv_sload_n C dL_law_1049 rfl 0 rfl ?_
  refine jv_iload C dL_law_1050 4 rfl ?_
  refine jv_iconst (v := 1) C dL_law_1052 (by decide) ?_
  refine jv_iadd C dL_law_1053 ?_
  refine jv_sld C SC dL_law_1054 h (fun v1 h => ?_)
  refine jv_sload_n C dL_law_1055 rfl 0 rfl ?_
  refine jv_iload C dL_law_1056 4 rfl ?_
  refine jv_iconst (v := 2) C dL_law_1058 (by decide) ?_
  refine jv_iadd C dL_law_1059 ?_
  refine jv_sld C SC dL_law_1060 h (fun v2 h => ?_)
  refine jv_sload_n C dL_law_1061 rfl 0 rfl ?_
  refine jv_iload C dL_law_1062 4 rfl ?_
  refine jv_iconst (v := 3) C dL_law_1064 (by decide) ?_
  refine jv_iadd C dL_law_1065 ?_
  refine jv_sld C SC dL_law_1066 h (fun v3 h => ?_)
  refine jv_vI0 (As := [.int v1, .int v2, .int v3]) C lk_L_175 rfl dL_law_1067 rfl rfl (by decide) (by omega) (by omega) (Nat.le_of_ble_eq_true rfl) h (fun _ _ h => ct_X9_calibrate h) (fun v5 M4 h => ?_)
  refine jv_aload_n C dL_law_1070 rfl 2 rfl ?_
  refine jv_sload_n C dL_law_1071 rfl 0 rfl ?_
  refine jv_iload C dL_law_1072 4 rfl ?_
  refine jv_iconst (v := 1) C dL_law_1074 (by decide) ?_
  refine jv_iadd C dL_law_1075 ?_
  refine jv_sld C SC dL_law_1076 h (fun v6 h => ?_)
  refine jv_sload_n C dL_law_1077 rfl 0 rfl ?_
  refine jv_iload C dL_law_1078 4 rfl ?_
  refine jv_iconst (v := 2) C dL_law_1080 (by decide) ?_
  refine jv_iadd C dL_law_1081 ?_
  refine jv_sld C SC dL_law_1082 h (fun v7 h => ?_)
  refine jv_sload_n C dL_law_1083 rfl 0 rfl ?_
  refine jv_iload C dL_law_1084 4 rfl ?_
  refine jv_iconst (v := 3) C dL_law_1086 (by decide) ?_
  refine jv_iadd C dL_law_1087 ?_
  refine jv_sld C SC dL_law_1088 h (fun v8 h => ?_)
  refine jv_vI0 (As := [.int v6, .int v7, .int v8]) C lk_L_179 rfl dL_law_1089 rfl rfl (by decide) (by omega) (by omega) (Nat.le_of_ble_eq_true rfl) h (fun _ _ h => ct_X10_calibrate h) (fun v10 M9 h => ?_)
  refine jv_icmp_eq (tgt := 1440) C dL_law_1092 (by decide) h (fun h => ?_) (fun h => ?_)
  · cases h
    refine jv_widen (ce' := ce + 1) (sl' := sl + 6) (by omega) (by omega) ?_
    exact kk _
  · refine jv_iconst (v := 0) C dL_law_1095 (by decide) ?_
    exact jv_no h
def fn_law_35 (N L : Nat) (xs : Nat → Int32) (M : Mem) (i : Int32) (a1 a2 a3 : Nat) : Option Mem :=
  (sc_ld L xs (i + 1)).bind fun v1 =>
  (mm_ck M a1 9).bind fun _ => mm_b2 (fn_X9_setMargin N M a1 v1) fun v3 M2 =>
  (sc_ld L xs (i + 1)).bind fun v4 =>
  (mm_ck M2 a2 10).bind fun _ => mm_b2 (fn_X10_setMargin N M2 a2 v4) fun v6 M5 =>
  if v3 = v6 then
    some M5
  else
    none
set_option maxRecDepth 100000 in
set_option maxHeartbeats 4000000 in
theorem bk_law_35 {Γ : Gm} {ω : Wd} {Q : State → Prop} {k N L : Nat} {xs : Nat → Int32} (hst : Γ.2.1.stackTraces = false) (C : Cx Γ cL_law 7 RL ω 840 601024 7293034) (SC : Sx Γ ω L xs) {M M' : Mem} {i : Int32} {a1 a2 a3 ce sl : Nat} (hce : ce + 1 ≤ 601024) (hsl : sl + 6 ≤ 7293034) (h : fn_law_35 N L xs M i a1 a2 a3 = some M') (kk : ∀ k, JJ Γ Q 7 ω k M' (ce + 1) (sl + 6) 1440 [(0, .float 300), (1, .ref a1), (2, .ref a2), (3, .ref a3), (4, .int i)] []) : JJ Γ Q 7 ω k M ce sl 1097 [(0, .float 300), (1, .ref a1), (2, .ref a2), (3, .ref a3), (4, .int i)] [] := by
  unfold fn_law_35 at h
  refine jv_aload_n C dL_law_1097 rfl 1 rfl ?_
  refine jv_sload_n C dL_law_1098 rfl 0 rfl ?_
  refine jv_iload C dL_law_1099 4 rfl ?_
  refine jv_iconst (v := 1) C dL_law_1101 (by decide) ?_
  refine jv_iadd C dL_law_1102 ?_
  refine jv_sld C SC dL_law_1103 h (fun v1 h => ?_)
  refine jv_vI0 (As := [.int v1]) C lk_L_180 rfl dL_law_1104 rfl rfl (by decide) (by omega) (by omega) (Nat.le_of_ble_eq_true rfl) h (fun _ _ h => ct_X9_setMargin h) (fun v3 M2 h => ?_)
  refine jv_aload_n C dL_law_1107 rfl 2 rfl ?_
  refine jv_sload_n C dL_law_1108 rfl 0 rfl ?_
  refine jv_iload C dL_law_1109 4 rfl ?_
  refine jv_iconst (v := 1) C dL_law_1111 (by decide) ?_
  refine jv_iadd C dL_law_1112 ?_
  refine jv_sld C SC dL_law_1113 h (fun v4 h => ?_)
  refine jv_vI0 (As := [.int v4]) C lk_L_183 rfl dL_law_1114 rfl rfl (by decide) (by omega) (by omega) (Nat.le_of_ble_eq_true rfl) h (fun _ _ h => ct_X10_setMargin h) (fun v6 M5 h => ?_)
  refine jv_icmp_eq (tgt := 1440) C dL_law_1117 (by decide) h (fun h => ?_) (fun h => ?_)
  · cases h
    refine jv_widen (ce' := ce + 1) (sl' := sl + 6) (by omega) (by omega) ?_
    exact kk _
  · refine jv_iconst (v := 0) C dL_law_1120 (by decide) ?_
    exact jv_no h
def fn_law_36 (N L : Nat) (xs : Nat → Int32) (M : Mem) (i : Int32) (a1 a2 a3 : Nat) : Option Mem :=
  (sc_ld L xs (i + 1)).bind fun v1 =>
  (sc_ld L xs (i + 2)).bind fun v2 =>
  (mm_ck M a1 9).bind fun _ => mm_b2 (fn_X9_insert N M a1 v1 v2) fun v4 M3 =>
  (sc_ld L xs (i + 1)).bind fun v5 =>
  (sc_ld L xs (i + 2)).bind fun v6 =>
  (mm_ck M3 a2 10).bind fun _ => mm_b2 (fn_X10_insert N M3 a2 v5 v6) fun v8 M7 =>
  if v4 = v8 then
    some M7
  else
    none
set_option maxRecDepth 100000 in
set_option maxHeartbeats 4000000 in
theorem bk_law_36 {Γ : Gm} {ω : Wd} {Q : State → Prop} {k N L : Nat} {xs : Nat → Int32} (hst : Γ.2.1.stackTraces = false) (C : Cx Γ cL_law 7 RL ω 840 601024 7293034) (SC : Sx Γ ω L xs) {M M' : Mem} {i : Int32} {a1 a2 a3 ce sl : Nat} (hce : ce + 1 ≤ 601024) (hsl : sl + 6 ≤ 7293034) (h : fn_law_36 N L xs M i a1 a2 a3 = some M') (kk : ∀ k, JJ Γ Q 7 ω k M' (ce + 1) (sl + 6) 1440 [(0, .float 300), (1, .ref a1), (2, .ref a2), (3, .ref a3), (4, .int i)] []) : JJ Γ Q 7 ω k M ce sl 1122 [(0, .float 300), (1, .ref a1), (2, .ref a2), (3, .ref a3), (4, .int i)] [] := by
  unfold fn_law_36 at h
  refine jv_aload_n C dL_law_1122 rfl 1 rfl ?_
  refine jv_sload_n C dL_law_1123 rfl 0 rfl ?_
  refine jv_iload C dL_law_1124 4 rfl ?_
  refine jv_iconst (v := 1) C dL_law_1126 (by decide) ?_
  refine jv_iadd C dL_law_1127 ?_
  refine jv_sld C SC dL_law_1128 h (fun v1 h => ?_)
  refine jv_sload_n C dL_law_1129 rfl 0 rfl ?_
  refine jv_iload C dL_law_1130 4 rfl ?_
  refine jv_iconst (v := 2) C dL_law_1132 (by decide) ?_
  refine jv_iadd C dL_law_1133 ?_
  refine jv_sld C SC dL_law_1134 h (fun v2 h => ?_)
  refine jv_vI0 (As := [.int v1, .int v2]) C lk_L_184 rfl dL_law_1135 rfl rfl (by decide) (by omega) (by omega) (Nat.le_of_ble_eq_true rfl) h (fun _ _ h => ct_X9_insert h) (fun v4 M3 h => ?_)
  refine jv_aload_n C dL_law_1138 rfl 2 rfl ?_
  refine jv_sload_n C dL_law_1139 rfl 0 rfl ?_
  refine jv_iload C dL_law_1140 4 rfl ?_
  refine jv_iconst (v := 1) C dL_law_1142 (by decide) ?_
  refine jv_iadd C dL_law_1143 ?_
  refine jv_sld C SC dL_law_1144 h (fun v5 h => ?_)
  refine jv_sload_n C dL_law_1145 rfl 0 rfl ?_
  refine jv_iload C dL_law_1146 4 rfl ?_
  refine jv_iconst (v := 2) C dL_law_1148 (by decide) ?_
  refine jv_iadd C dL_law_1149 ?_
  refine jv_sld C SC dL_law_1150 h (fun v6 h => ?_)
  refine jv_vI0 (As := [.int v5, .int v6]) C lk_L_187 rfl dL_law_1151 rfl rfl (by decide) (by omega) (by omega) (Nat.le_of_ble_eq_true rfl) h (fun _ _ h => ct_X10_insert h) (fun v8 M7 h => ?_)
  refine jv_icmp_eq (tgt := 1440) C dL_law_1154 (by decide) h (fun h => ?_) (fun h => ?_)
  · cases h
    refine jv_widen (ce' := ce + 1) (sl' := sl + 6) (by omega) (by omega) ?_
    exact kk _
  · refine jv_iconst (v := 0) C dL_law_1157 (by decide) ?_
    exact jv_no h
def fn_law_37 (N L : Nat) (xs : Nat → Int32) (M : Mem) (i : Int32) (a1 a2 a3 : Nat) : Option Mem :=
  (mm_ck M a1 9).bind fun _ => mm_b2 (fn_X9_step N M a1) fun v2 M1 =>
  (mm_ck M1 a2 10).bind fun _ => mm_b2 (fn_X10_step N M1 a2) fun v4 M3 =>
  if v2 = v4 then
    some M3
  else
    none
set_option maxRecDepth 100000 in
set_option maxHeartbeats 4000000 in
theorem bk_law_37 {Γ : Gm} {ω : Wd} {Q : State → Prop} {k N L : Nat} {xs : Nat → Int32} (hst : Γ.2.1.stackTraces = false) (C : Cx Γ cL_law 7 RL ω 840 601024 7293034) (SC : Sx Γ ω L xs) {M M' : Mem} {i : Int32} {a1 a2 a3 ce sl : Nat} (hce : ce + 1 ≤ 601024) (hsl : sl + 6 ≤ 7293034) (h : fn_law_37 N L xs M i a1 a2 a3 = some M') (kk : ∀ k, JJ Γ Q 7 ω k M' (ce + 1) (sl + 6) 1440 [(0, .float 300), (1, .ref a1), (2, .ref a2), (3, .ref a3), (4, .int i)] []) : JJ Γ Q 7 ω k M ce sl 1159 [(0, .float 300), (1, .ref a1), (2, .ref a2), (3, .ref a3), (4, .int i)] [] := by
  unfold fn_law_37 at h
  refine jv_aload_n C dL_law_1159 rfl 1 rfl ?_
  refine jv_vI0 (As := []) C lk_L_188 rfl dL_law_1160 rfl rfl (by decide) (by omega) (by omega) (Nat.le_of_ble_eq_true rfl) h (fun _ _ h => ct_X9_step h) (fun v2 M1 h => ?_)
  refine jv_aload_n C dL_law_1163 rfl 2 rfl ?_
  refine jv_vI0 (As := []) C lk_L_191 rfl dL_law_1164 rfl rfl (by decide) (by omega) (by omega) (Nat.le_of_ble_eq_true rfl) h (fun _ _ h => ct_X10_step h) (fun v4 M3 h => ?_)
  refine jv_icmp_eq (tgt := 1440) C dL_law_1167 (by decide) h (fun h => ?_) (fun h => ?_)
  · cases h
    refine jv_widen (ce' := ce + 1) (sl' := sl + 6) (by omega) (by omega) ?_
    exact kk _
  · refine jv_iconst (v := 0) C dL_law_1170 (by decide) ?_
    exact jv_no h
def fn_law_38 (N L : Nat) (xs : Nat → Int32) (M : Mem) (i : Int32) (a1 a2 a3 : Nat) : Option Mem :=
  (sc_ld L xs (i + 1)).bind fun v1 =>
  (mm_ck M a1 9).bind fun _ => mm_b2 (fn_X9_run N M a1 v1) fun v3 M2 =>
  (sc_ld L xs (i + 1)).bind fun v4 =>
  (mm_ck M2 a2 10).bind fun _ => mm_b2 (fn_X10_run N M2 a2 v4) fun v6 M5 =>
  if v3 = v6 then
    some M5
  else
    none
set_option maxRecDepth 100000 in
set_option maxHeartbeats 4000000 in
theorem bk_law_38 {Γ : Gm} {ω : Wd} {Q : State → Prop} {k N L : Nat} {xs : Nat → Int32} (hst : Γ.2.1.stackTraces = false) (C : Cx Γ cL_law 7 RL ω 840 601024 7293034) (SC : Sx Γ ω L xs) {M M' : Mem} {i : Int32} {a1 a2 a3 ce sl : Nat} (hce : ce + 1 ≤ 601024) (hsl : sl + 6 ≤ 7293034) (h : fn_law_38 N L xs M i a1 a2 a3 = some M') (kk : ∀ k, JJ Γ Q 7 ω k M' (ce + 1) (sl + 6) 1440 [(0, .float 300), (1, .ref a1), (2, .ref a2), (3, .ref a3), (4, .int i)] []) : JJ Γ Q 7 ω k M ce sl 1172 [(0, .float 300), (1, .ref a1), (2, .ref a2), (3, .ref a3), (4, .int i)] [] := by
  unfold fn_law_38 at h
  refine jv_aload_n C dL_law_1172 rfl 1 rfl ?_
  refine jv_sload_n C dL_law_1173 rfl 0 rfl ?_
  refine jv_iload C dL_law_1174 4 rfl ?_
  refine jv_iconst (v := 1) C dL_law_1176 (by decide) ?_
  refine jv_iadd C dL_law_1177 ?_
  refine jv_sld C SC dL_law_1178 h (fun v1 h => ?_)
  refine jv_vI0 (As := [.int v1]) C lk_L_192 rfl dL_law_1179 rfl rfl (by decide) (by omega) (by omega) (Nat.le_of_ble_eq_true rfl) h (fun _ _ h => ct_X9_run h) (fun v3 M2 h => ?_)
  refine jv_aload_n C dL_law_1182 rfl 2 rfl ?_
  refine jv_sload_n C dL_law_1183 rfl 0 rfl ?_
  refine jv_iload C dL_law_1184 4 rfl ?_
  refine jv_iconst (v := 1) C dL_law_1186 (by decide) ?_
  refine jv_iadd C dL_law_1187 ?_
  refine jv_sld C SC dL_law_1188 h (fun v4 h => ?_)
  refine jv_vI0 (As := [.int v4]) C lk_L_195 rfl dL_law_1189 rfl rfl (by decide) (by omega) (by omega) (Nat.le_of_ble_eq_true rfl) h (fun _ _ h => ct_X10_run h) (fun v6 M5 h => ?_)
  refine jv_icmp_eq (tgt := 1440) C dL_law_1192 (by decide) h (fun h => ?_) (fun h => ?_)
  · cases h
    refine jv_widen (ce' := ce + 1) (sl' := sl + 6) (by omega) (by omega) ?_
    exact kk _
  · refine jv_iconst (v := 0) C dL_law_1195 (by decide) ?_
    exact jv_no h
def fn_law_39 (N L : Nat) (xs : Nat → Int32) (M : Mem) (i : Int32) (a1 a2 a3 : Nat) : Option Mem :=
  (mm_ck M a1 9).bind fun _ => mm_b2 (fn_X9_clearJam N M a1) fun v2 M1 =>
  (mm_ck M1 a2 10).bind fun _ => mm_b2 (fn_X10_clearJam N M1 a2) fun v4 M3 =>
  if v2 = v4 then
    some M3
  else
    none
set_option maxRecDepth 100000 in
set_option maxHeartbeats 4000000 in
theorem bk_law_39 {Γ : Gm} {ω : Wd} {Q : State → Prop} {k N L : Nat} {xs : Nat → Int32} (hst : Γ.2.1.stackTraces = false) (C : Cx Γ cL_law 7 RL ω 840 601024 7293034) (SC : Sx Γ ω L xs) {M M' : Mem} {i : Int32} {a1 a2 a3 ce sl : Nat} (hce : ce + 1 ≤ 601024) (hsl : sl + 6 ≤ 7293034) (h : fn_law_39 N L xs M i a1 a2 a3 = some M') (kk : ∀ k, JJ Γ Q 7 ω k M' (ce + 1) (sl + 6) 1440 [(0, .float 300), (1, .ref a1), (2, .ref a2), (3, .ref a3), (4, .int i)] []) : JJ Γ Q 7 ω k M ce sl 1197 [(0, .float 300), (1, .ref a1), (2, .ref a2), (3, .ref a3), (4, .int i)] [] := by
  unfold fn_law_39 at h
  refine jv_aload_n C dL_law_1197 rfl 1 rfl ?_
  refine jv_vI0 (As := []) C lk_L_196 rfl dL_law_1198 rfl rfl (by decide) (by omega) (by omega) (Nat.le_of_ble_eq_true rfl) h (fun _ _ h => ct_X9_clearJam h) (fun v2 M1 h => ?_)
  refine jv_aload_n C dL_law_1201 rfl 2 rfl ?_
  refine jv_vI0 (As := []) C lk_L_199 rfl dL_law_1202 rfl rfl (by decide) (by omega) (by omega) (Nat.le_of_ble_eq_true rfl) h (fun _ _ h => ct_X10_clearJam h) (fun v4 M3 h => ?_)
  refine jv_icmp_eq (tgt := 1440) C dL_law_1205 (by decide) h (fun h => ?_) (fun h => ?_)
  · cases h
    refine jv_widen (ce' := ce + 1) (sl' := sl + 6) (by omega) (by omega) ?_
    exact kk _
  · refine jv_iconst (v := 0) C dL_law_1208 (by decide) ?_
    exact jv_no h
def fn_law_40 (N L : Nat) (xs : Nat → Int32) (M : Mem) (i : Int32) (a1 a2 a3 : Nat) : Option Mem :=
  (sc_ld L xs (i + 1)).bind fun v1 =>
  (mm_ck M a1 9).bind fun _ => mm_b2 (fn_X9_changeBag N M a1 v1) fun v3 M2 =>
  (sc_ld L xs (i + 1)).bind fun v4 =>
  (mm_ck M2 a2 10).bind fun _ => mm_b2 (fn_X10_changeBag N M2 a2 v4) fun v6 M5 =>
  if v3 = v6 then
    some M5
  else
    none
set_option maxRecDepth 100000 in
set_option maxHeartbeats 4000000 in
theorem bk_law_40 {Γ : Gm} {ω : Wd} {Q : State → Prop} {k N L : Nat} {xs : Nat → Int32} (hst : Γ.2.1.stackTraces = false) (C : Cx Γ cL_law 7 RL ω 840 601024 7293034) (SC : Sx Γ ω L xs) {M M' : Mem} {i : Int32} {a1 a2 a3 ce sl : Nat} (hce : ce + 1 ≤ 601024) (hsl : sl + 6 ≤ 7293034) (h : fn_law_40 N L xs M i a1 a2 a3 = some M') (kk : ∀ k, JJ Γ Q 7 ω k M' (ce + 1) (sl + 6) 1440 [(0, .float 300), (1, .ref a1), (2, .ref a2), (3, .ref a3), (4, .int i)] []) : JJ Γ Q 7 ω k M ce sl 1210 [(0, .float 300), (1, .ref a1), (2, .ref a2), (3, .ref a3), (4, .int i)] [] := by
  unfold fn_law_40 at h
  refine jv_aload_n C dL_law_1210 rfl 1 rfl ?_
  refine jv_sload_n C dL_law_1211 rfl 0 rfl ?_
  refine jv_iload C dL_law_1212 4 rfl ?_
  refine jv_iconst (v := 1) C dL_law_1214 (by decide) ?_
  refine jv_iadd C dL_law_1215 ?_
  refine jv_sld C SC dL_law_1216 h (fun v1 h => ?_)
  refine jv_vI0 (As := [.int v1]) C lk_L_200 rfl dL_law_1217 rfl rfl (by decide) (by omega) (by omega) (Nat.le_of_ble_eq_true rfl) h (fun _ _ h => ct_X9_changeBag h) (fun v3 M2 h => ?_)
  refine jv_aload_n C dL_law_1220 rfl 2 rfl ?_
  refine jv_sload_n C dL_law_1221 rfl 0 rfl ?_
  refine jv_iload C dL_law_1222 4 rfl ?_
  refine jv_iconst (v := 1) C dL_law_1224 (by decide) ?_
  refine jv_iadd C dL_law_1225 ?_
  refine jv_sld C SC dL_law_1226 h (fun v4 h => ?_)
  refine jv_vI0 (As := [.int v4]) C lk_L_203 rfl dL_law_1227 rfl rfl (by decide) (by omega) (by omega) (Nat.le_of_ble_eq_true rfl) h (fun _ _ h => ct_X10_changeBag h) (fun v6 M5 h => ?_)
  refine jv_icmp_eq (tgt := 1440) C dL_law_1230 (by decide) h (fun h => ?_) (fun h => ?_)
  · cases h
    refine jv_widen (ce' := ce + 1) (sl' := sl + 6) (by omega) (by omega) ?_
    exact kk _
  · refine jv_iconst (v := 0) C dL_law_1233 (by decide) ?_
    exact jv_no h
def fn_law_41 (N L : Nat) (xs : Nat → Int32) (M : Mem) (i : Int32) (a1 a2 a3 : Nat) : Option Mem :=
  (sc_ld L xs (i + 1)).bind fun v1 =>
  (sc_ld L xs (i + 2)).bind fun v2 =>
  mm_b2 (fn_L_audit N M a1 v1 v2 a3) fun v4 M3 =>
  (sc_ld L xs (i + 1)).bind fun v5 =>
  (sc_ld L xs (i + 2)).bind fun v6 =>
  (mm_ck M3 a2 10).bind fun _ => mm_b2 (fn_X10_audit N M3 a2 v5 v6) fun v8 M7 =>
  (mm_ck M7 a2 10).bind fun _ => mm_b2 (fn_X10_thrown N M7 a2) fun v10 M9 =>
  if v10 = v4 then
    if v4 = 0 then
      (mm_aL M9 a3 0).bind fun v11 =>
      if (lg_cmp v11 (Int32.toInt64 v8)) = 0 then
        some M9
      else
        none
    else
      some M9
  else
    none
set_option maxRecDepth 100000 in
set_option maxHeartbeats 4000000 in
theorem bk_law_41 {Γ : Gm} {ω : Wd} {Q : State → Prop} {k N L : Nat} {xs : Nat → Int32} (hst : Γ.2.1.stackTraces = false) (C : Cx Γ cL_law 7 RL ω 840 601024 7293034) (SC : Sx Γ ω L xs) {M M' : Mem} {i : Int32} {a1 a2 a3 ce sl : Nat} (hce : ce + 1 ≤ 601024) (hsl : sl + 6 ≤ 7293034) (h : fn_law_41 N L xs M i a1 a2 a3 = some M') (kk : ∀ k, JJ Γ Q 7 ω k M' (ce + 1) (sl + 6) 1440 [(0, .float 300), (1, .ref a1), (2, .ref a2), (3, .ref a3), (4, .int i)] []) : JJ Γ Q 7 ω k M ce sl 1235 [(0, .float 300), (1, .ref a1), (2, .ref a2), (3, .ref a3), (4, .int i)] [] := by
  unfold fn_law_41 at h
  refine jv_aload_n C dL_law_1235 rfl 1 rfl ?_
  refine jv_sload_n C dL_law_1236 rfl 0 rfl ?_
  refine jv_iload C dL_law_1237 4 rfl ?_
  refine jv_iconst (v := 1) C dL_law_1239 (by decide) ?_
  refine jv_iadd C dL_law_1240 ?_
  refine jv_sld C SC dL_law_1241 h (fun v1 h => ?_)
  refine jv_sload_n C dL_law_1242 rfl 0 rfl ?_
  refine jv_iload C dL_law_1243 4 rfl ?_
  refine jv_iconst (v := 2) C dL_law_1245 (by decide) ?_
  refine jv_iadd C dL_law_1246 ?_
  refine jv_sld C SC dL_law_1247 h (fun v2 h => ?_)
  refine jv_aload_n C dL_law_1248 rfl 3 rfl ?_
  refine jv_kI (As := [.ref a1, .int v1, .int v2, .ref a3]) C lk_L_204 dL_law_1249 rfl rfl (by decide) (by omega) (by omega) (Nat.le_of_ble_eq_true rfl) h (fun _ _ h => ck_L_audit hst h) (fun k v4 M3 h => ?_)
  refine jv_istore (lv' := [(5, .int v4), (0, .float 300), (1, .ref a1), (2, .ref a2), (3, .ref a3), (4, .int i)]) C dL_law_1252 (by decide) rfl ?_
  refine jv_aload_n C dL_law_1254 rfl 3 rfl ?_
  refine jv_sload_n C dL_law_1255 rfl 1 rfl ?_
  refine jv_iload C dL_law_1256 5 rfl ?_
  refine jv_iconst (v := 1) C dL_law_1258 (by decide) ?_
  refine jv_iadd C dL_law_1259 ?_
  refine jv_sld C SC dL_law_1260 h (fun v5 h => ?_)
  refine jv_sload_n C dL_law_1261 rfl 1 rfl ?_
  refine jv_iload C dL_law_1262 5 rfl ?_
  refine jv_iconst (v := 2) C dL_law_1264 (by decide) ?_
  refine jv_iadd C dL_law_1265 ?_
  refine jv_sld C SC dL_law_1266 h (fun v6 h => ?_)
  refine jv_vI0 (As := [.int v5, .int v6]) C lk_L_206 rfl dL_law_1267 rfl rfl (by decide) (by omega) (by omega) (Nat.le_of_ble_eq_true rfl) h (fun _ _ h => ct_X10_audit h) (fun v8 M7 h => ?_)
  refine jv_istore (lv' := [(6, .int v8), (5, .int v4), (0, .float 300), (1, .ref a1), (2, .ref a2), (3, .ref a3), (4, .int i)]) C dL_law_1270 (by decide) rfl ?_
  refine jv_aload_n C dL_law_1272 rfl 4 rfl ?_
  refine jv_vI0 (As := []) C lk_L_71 rfl dL_law_1273 rfl rfl (by decide) (by omega) (by omega) (Nat.le_of_ble_eq_true rfl) h (fun _ _ h => ct_X10_thrown h) (fun v10 M9 h => ?_)
  refine jv_iload C dL_law_1276 1 rfl ?_
  refine jv_icmp_eq (tgt := 1283) C dL_law_1278 (by decide) h (fun h => ?_) (fun h => ?_)
  · refine jv_iload C dL_law_1283 1 rfl ?_
    refine jv_if_ne (tgt := 1300) C dL_law_1285 (by decide) h (fun h => ?_) (fun h => ?_)
    · refine jv_goto (tgt := 1440) C dL_law_1300 (by decide) ?_
      cases h
      refine jv_sub [2, 3, 4, 5, 6] rfl ?_
      exact kk _
    · refine jv_aload_n C dL_law_1288 rfl 5 rfl ?_
      refine jv_iconst (v := 0) C dL_law_1289 (by decide) ?_
      refine jv_lald C dL_law_1290 h (fun v11 h => ?_)
      refine jv_iload C dL_law_1291 0 rfl ?_
      refine jv_i2l C dL_law_1293 ?_
      refine jv_lcmp C dL_law_1294 ?_
      refine jv_if_eq (tgt := 1300) C dL_law_1295 (by decide) h (fun h => ?_) (fun h => ?_)
      · refine jv_goto (tgt := 1440) C dL_law_1300 (by decide) ?_
        cases h
        refine jv_sub [2, 3, 4, 5, 6] rfl ?_
        exact kk _
      · refine jv_iconst (v := 0) C dL_law_1298 (by decide) ?_
        exact jv_no h
  · refine jv_iconst (v := 0) C dL_law_1281 (by decide) ?_
    exact jv_no h
def fn_law_42 (N L : Nat) (xs : Nat → Int32) (M : Mem) (i : Int32) (a1 a2 a3 : Nat) : Option Mem :=
  (sc_ld L xs (i + 1)).bind fun v1 =>
  (mm_ck M a1 9).bind fun _ => mm_b2 (fn_X9_dispense N M a1 v1) fun v3 M2 =>
  (sc_ld L xs (i + 1)).bind fun v4 =>
  (mm_ck M2 a2 10).bind fun _ => mm_b2 (fn_X10_dispense N M2 a2 v4) fun v6 M5 =>
  if v3 = v6 then
    some M5
  else
    none
set_option maxRecDepth 100000 in
set_option maxHeartbeats 4000000 in
theorem bk_law_42 {Γ : Gm} {ω : Wd} {Q : State → Prop} {k N L : Nat} {xs : Nat → Int32} (hst : Γ.2.1.stackTraces = false) (C : Cx Γ cL_law 7 RL ω 840 601024 7293034) (SC : Sx Γ ω L xs) {M M' : Mem} {i : Int32} {a1 a2 a3 ce sl : Nat} (hce : ce + 1 ≤ 601024) (hsl : sl + 6 ≤ 7293034) (h : fn_law_42 N L xs M i a1 a2 a3 = some M') (kk : ∀ k, JJ Γ Q 7 ω k M' (ce + 1) (sl + 6) 1440 [(0, .float 300), (1, .ref a1), (2, .ref a2), (3, .ref a3), (4, .int i)] []) : JJ Γ Q 7 ω k M ce sl 1303 [(0, .float 300), (1, .ref a1), (2, .ref a2), (3, .ref a3), (4, .int i)] [] := by
  unfold fn_law_42 at h
  refine jv_aload_n C dL_law_1303 rfl 1 rfl ?_
  refine jv_sload_n C dL_law_1304 rfl 0 rfl ?_
  refine jv_iload C dL_law_1305 4 rfl ?_
  refine jv_iconst (v := 1) C dL_law_1307 (by decide) ?_
  refine jv_iadd C dL_law_1308 ?_
  refine jv_sld C SC dL_law_1309 h (fun v1 h => ?_)
  refine jv_vI0 (As := [.int v1]) C lk_L_207 rfl dL_law_1310 rfl rfl (by decide) (by omega) (by omega) (Nat.le_of_ble_eq_true rfl) h (fun _ _ h => ct_X9_dispense h) (fun v3 M2 h => ?_)
  refine jv_aload_n C dL_law_1313 rfl 2 rfl ?_
  refine jv_sload_n C dL_law_1314 rfl 0 rfl ?_
  refine jv_iload C dL_law_1315 4 rfl ?_
  refine jv_iconst (v := 1) C dL_law_1317 (by decide) ?_
  refine jv_iadd C dL_law_1318 ?_
  refine jv_sld C SC dL_law_1319 h (fun v4 h => ?_)
  refine jv_vI0 (As := [.int v4]) C lk_L_210 rfl dL_law_1320 rfl rfl (by decide) (by omega) (by omega) (Nat.le_of_ble_eq_true rfl) h (fun _ _ h => ct_X10_dispense h) (fun v6 M5 h => ?_)
  refine jv_icmp_eq (tgt := 1440) C dL_law_1323 (by decide) h (fun h => ?_) (fun h => ?_)
  · cases h
    refine jv_widen (ce' := ce + 1) (sl' := sl + 6) (by omega) (by omega) ?_
    exact kk _
  · refine jv_iconst (v := 0) C dL_law_1326 (by decide) ?_
    exact jv_no h
def fn_law_43 (N L : Nat) (xs : Nat → Int32) (M : Mem) (i : Int32) (a1 a2 a3 : Nat) : Option Mem :=
  (sc_ld L xs (i + 1)).bind fun v1 =>
  (sc_ld L xs (i + 2)).bind fun v2 =>
  (sc_ld L xs (i + 3)).bind fun v3 =>
  (mm_ck M a1 9).bind fun _ => mm_b2 (fn_X9_addSample N M a1 v1 v2 v3) fun v5 M4 =>
  (sc_ld L xs (i + 1)).bind fun v6 =>
  (sc_ld L xs (i + 2)).bind fun v7 =>
  (sc_ld L xs (i + 3)).bind fun v8 =>
  (mm_ck M4 a2 10).bind fun _ => mm_b2 (fn_X10_addSample N M4 a2 v6 v7 v8) fun v10 M9 =>
  if v5 = v10 then
    some M9
  else
    none
set_option maxRecDepth 100000 in
set_option maxHeartbeats 4000000 in
theorem bk_law_43 {Γ : Gm} {ω : Wd} {Q : State → Prop} {k N L : Nat} {xs : Nat → Int32} (hst : Γ.2.1.stackTraces = false) (C : Cx Γ cL_law 7 RL ω 840 601024 7293034) (SC : Sx Γ ω L xs) {M M' : Mem} {i : Int32} {a1 a2 a3 ce sl : Nat} (hce : ce + 1 ≤ 601024) (hsl : sl + 6 ≤ 7293034) (h : fn_law_43 N L xs M i a1 a2 a3 = some M') (kk : ∀ k, JJ Γ Q 7 ω k M' (ce + 1) (sl + 6) 1440 [(0, .float 300), (1, .ref a1), (2, .ref a2), (3, .ref a3), (4, .int i)] []) : JJ Γ Q 7 ω k M ce sl 1328 [(0, .float 300), (1, .ref a1), (2, .ref a2), (3, .ref a3), (4, .int i)] [] := by
  unfold fn_law_43 at h
  refine jv_aload_n C dL_law_1328 rfl 1 rfl ?_
  refine jv_sload_n C dL_law_1329 rfl 0 rfl ?_
  refine jv_iload C dL_law_1330 4 rfl ?_
  refine jv_iconst (v := 1) C dL_law_1332 (by decide) ?_
  refine jv_iadd C dL_law_1333 ?_
  refine jv_sld C SC dL_law_1334 h (fun v1 h => ?_)
  refine jv_sload_n C dL_law_1335 rfl 0 rfl ?_
  refine jv_iload C dL_law_1336 4 rfl ?_
  refine jv_iconst (v := 2) C dL_law_1338 (by decide) ?_
  refine jv_iadd C dL_law_1339 ?_
  refine jv_sld C SC dL_law_1340 h (fun v2 h => ?_)
  refine jv_sload_n C dL_law_1341 rfl 0 rfl ?_
  refine jv_iload C dL_law_1342 4 rfl ?_
  refine jv_iconst (v := 3) C dL_law_1344 (by decide) ?_
  refine jv_iadd C dL_law_1345 ?_
  refine jv_sld C SC dL_law_1346 h (fun v3 h => ?_)
  refine jv_vI0 (As := [.int v1, .int v2, .int v3]) C lk_L_211 rfl dL_law_1347 rfl rfl (by decide) (by omega) (by omega) (Nat.le_of_ble_eq_true rfl) h (fun _ _ h => ct_X9_addSample h) (fun v5 M4 h => ?_)
  refine jv_aload_n C dL_law_1350 rfl 2 rfl ?_
  refine jv_sload_n C dL_law_1351 rfl 0 rfl ?_
  refine jv_iload C dL_law_1352 4 rfl ?_
  refine jv_iconst (v := 1) C dL_law_1354 (by decide) ?_
  refine jv_iadd C dL_law_1355 ?_
  refine jv_sld C SC dL_law_1356 h (fun v6 h => ?_)
  refine jv_sload_n C dL_law_1357 rfl 0 rfl ?_
  refine jv_iload C dL_law_1358 4 rfl ?_
  refine jv_iconst (v := 2) C dL_law_1360 (by decide) ?_
  refine jv_iadd C dL_law_1361 ?_
  refine jv_sld C SC dL_law_1362 h (fun v7 h => ?_)
  refine jv_sload_n C dL_law_1363 rfl 0 rfl ?_
  refine jv_iload C dL_law_1364 4 rfl ?_
  refine jv_iconst (v := 3) C dL_law_1366 (by decide) ?_
  refine jv_iadd C dL_law_1367 ?_
  refine jv_sld C SC dL_law_1368 h (fun v8 h => ?_)
  refine jv_vI0 (As := [.int v6, .int v7, .int v8]) C lk_L_214 rfl dL_law_1369 rfl rfl (by decide) (by omega) (by omega) (Nat.le_of_ble_eq_true rfl) h (fun _ _ h => ct_X10_addSample h) (fun v10 M9 h => ?_)
  refine jv_icmp_eq (tgt := 1440) C dL_law_1372 (by decide) h (fun h => ?_) (fun h => ?_)
  · cases h
    refine jv_widen (ce' := ce + 1) (sl' := sl + 6) (by omega) (by omega) ?_
    exact kk _
  · refine jv_iconst (v := 0) C dL_law_1375 (by decide) ?_
    exact jv_no h
def fn_law_44 (N L : Nat) (xs : Nat → Int32) (M : Mem) (i : Int32) (a1 a2 a3 : Nat) : Option Mem :=
  (mm_ck M a1 9).bind fun _ => mm_b2 (fn_X9_undo N M a1) fun v2 M1 =>
  (mm_ck M1 a2 10).bind fun _ => mm_b2 (fn_X10_undo N M1 a2) fun v4 M3 =>
  if v2 = v4 then
    some M3
  else
    none
set_option maxRecDepth 100000 in
set_option maxHeartbeats 4000000 in
theorem bk_law_44 {Γ : Gm} {ω : Wd} {Q : State → Prop} {k N L : Nat} {xs : Nat → Int32} (hst : Γ.2.1.stackTraces = false) (C : Cx Γ cL_law 7 RL ω 840 601024 7293034) (SC : Sx Γ ω L xs) {M M' : Mem} {i : Int32} {a1 a2 a3 ce sl : Nat} (hce : ce + 1 ≤ 601024) (hsl : sl + 6 ≤ 7293034) (h : fn_law_44 N L xs M i a1 a2 a3 = some M') (kk : ∀ k, JJ Γ Q 7 ω k M' (ce + 1) (sl + 6) 1440 [(0, .float 300), (1, .ref a1), (2, .ref a2), (3, .ref a3), (4, .int i)] []) : JJ Γ Q 7 ω k M ce sl 1377 [(0, .float 300), (1, .ref a1), (2, .ref a2), (3, .ref a3), (4, .int i)] [] := by
  unfold fn_law_44 at h
  refine jv_aload_n C dL_law_1377 rfl 1 rfl ?_
  refine jv_vI0 (As := []) C lk_L_215 rfl dL_law_1378 rfl rfl (by decide) (by omega) (by omega) (Nat.le_of_ble_eq_true rfl) h (fun _ _ h => ct_X9_undo h) (fun v2 M1 h => ?_)
  refine jv_aload_n C dL_law_1381 rfl 2 rfl ?_
  refine jv_vI0 (As := []) C lk_L_218 rfl dL_law_1382 rfl rfl (by decide) (by omega) (by omega) (Nat.le_of_ble_eq_true rfl) h (fun _ _ h => ct_X10_undo h) (fun v4 M3 h => ?_)
  refine jv_icmp_eq (tgt := 1440) C dL_law_1385 (by decide) h (fun h => ?_) (fun h => ?_)
  · cases h
    refine jv_widen (ce' := ce + 1) (sl' := sl + 6) (by omega) (by omega) ?_
    exact kk _
  · refine jv_iconst (v := 0) C dL_law_1388 (by decide) ?_
    exact jv_no h
def fn_law_45 (N L : Nat) (xs : Nat → Int32) (M : Mem) (i : Int32) (a1 a2 a3 : Nat) : Option Mem :=
  (sc_ld L xs (i + 1)).bind fun v1 =>
  (mm_ck M a1 9).bind fun _ => mm_b2 (fn_X9_saveSnapshot N M a1 v1) fun v3 M2 =>
  (sc_ld L xs (i + 1)).bind fun v4 =>
  (mm_ck M2 a2 10).bind fun _ => mm_b2 (fn_X10_saveSnapshot N M2 a2 v4) fun v6 M5 =>
  if v3 = v6 then
    some M5
  else
    none
set_option maxRecDepth 100000 in
set_option maxHeartbeats 4000000 in
theorem bk_law_45 {Γ : Gm} {ω : Wd} {Q : State → Prop} {k N L : Nat} {xs : Nat → Int32} (hst : Γ.2.1.stackTraces = false) (C : Cx Γ cL_law 7 RL ω 840 601024 7293034) (SC : Sx Γ ω L xs) {M M' : Mem} {i : Int32} {a1 a2 a3 ce sl : Nat} (hce : ce + 1 ≤ 601024) (hsl : sl + 6 ≤ 7293034) (h : fn_law_45 N L xs M i a1 a2 a3 = some M') (kk : ∀ k, JJ Γ Q 7 ω k M' (ce + 1) (sl + 6) 1440 [(0, .float 300), (1, .ref a1), (2, .ref a2), (3, .ref a3), (4, .int i)] []) : JJ Γ Q 7 ω k M ce sl 1390 [(0, .float 300), (1, .ref a1), (2, .ref a2), (3, .ref a3), (4, .int i)] [] := by
  unfold fn_law_45 at h
  refine jv_aload_n C dL_law_1390 rfl 1 rfl ?_
  refine jv_sload_n C dL_law_1391 rfl 0 rfl ?_
  refine jv_iload C dL_law_1392 4 rfl ?_
  refine jv_iconst (v := 1) C dL_law_1394 (by decide) ?_
  refine jv_iadd C dL_law_1395 ?_
  refine jv_sld C SC dL_law_1396 h (fun v1 h => ?_)
  refine jv_vI0 (As := [.int v1]) C lk_L_219 rfl dL_law_1397 rfl rfl (by decide) (by omega) (by omega) (Nat.le_of_ble_eq_true rfl) h (fun _ _ h => ct_X9_saveSnapshot h) (fun v3 M2 h => ?_)
  refine jv_aload_n C dL_law_1400 rfl 2 rfl ?_
  refine jv_sload_n C dL_law_1401 rfl 0 rfl ?_
  refine jv_iload C dL_law_1402 4 rfl ?_
  refine jv_iconst (v := 1) C dL_law_1404 (by decide) ?_
  refine jv_iadd C dL_law_1405 ?_
  refine jv_sld C SC dL_law_1406 h (fun v4 h => ?_)
  refine jv_vI0 (As := [.int v4]) C lk_L_223 rfl dL_law_1407 rfl rfl (by decide) (by omega) (by omega) (Nat.le_of_ble_eq_true rfl) h (fun _ _ h => ct_X10_saveSnapshot h) (fun v6 M5 h => ?_)
  refine jv_icmp_eq (tgt := 1440) C dL_law_1410 (by decide) h (fun h => ?_) (fun h => ?_)
  · cases h
    refine jv_widen (ce' := ce + 1) (sl' := sl + 6) (by omega) (by omega) ?_
    exact kk _
  · refine jv_iconst (v := 0) C dL_law_1413 (by decide) ?_
    exact jv_no h
def fn_law_46 (N L : Nat) (xs : Nat → Int32) (M : Mem) (i : Int32) (a1 a2 a3 : Nat) : Option Mem :=
  (sc_ld L xs (i + 1)).bind fun v1 =>
  (mm_ck M a1 9).bind fun _ => mm_b2 (fn_X9_restoreSnapshot N M a1 v1) fun v3 M2 =>
  (sc_ld L xs (i + 1)).bind fun v4 =>
  (mm_ck M2 a2 10).bind fun _ => mm_b2 (fn_X10_restoreSnapshot N M2 a2 v4) fun v6 M5 =>
  if v3 = v6 then
    some M5
  else
    none
set_option maxRecDepth 100000 in
set_option maxHeartbeats 4000000 in
theorem bk_law_46 {Γ : Gm} {ω : Wd} {Q : State → Prop} {k N L : Nat} {xs : Nat → Int32} (hst : Γ.2.1.stackTraces = false) (C : Cx Γ cL_law 7 RL ω 840 601024 7293034) (SC : Sx Γ ω L xs) {M M' : Mem} {i : Int32} {a1 a2 a3 ce sl : Nat} (hce : ce + 1 ≤ 601024) (hsl : sl + 6 ≤ 7293034) (h : fn_law_46 N L xs M i a1 a2 a3 = some M') (kk : ∀ k, JJ Γ Q 7 ω k M' (ce + 1) (sl + 6) 1440 [(0, .float 300), (1, .ref a1), (2, .ref a2), (3, .ref a3), (4, .int i)] []) : JJ Γ Q 7 ω k M ce sl 1415 [(0, .float 300), (1, .ref a1), (2, .ref a2), (3, .ref a3), (4, .int i)] [] := by
  unfold fn_law_46 at h
  refine jv_aload_n C dL_law_1415 rfl 1 rfl ?_
  refine jv_sload_n C dL_law_1416 rfl 0 rfl ?_
  refine jv_iload C dL_law_1417 4 rfl ?_
  refine jv_iconst (v := 1) C dL_law_1419 (by decide) ?_
  refine jv_iadd C dL_law_1420 ?_
  refine jv_sld C SC dL_law_1421 h (fun v1 h => ?_)
  refine jv_vI0 (As := [.int v1]) C lk_L_224 rfl dL_law_1422 rfl rfl (by decide) (by omega) (by omega) (Nat.le_of_ble_eq_true rfl) h (fun _ _ h => ct_X9_restoreSnapshot h) (fun v3 M2 h => ?_)
  refine jv_aload_n C dL_law_1425 rfl 2 rfl ?_
  refine jv_sload_n C dL_law_1426 rfl 0 rfl ?_
  refine jv_iload C dL_law_1427 4 rfl ?_
  refine jv_iconst (v := 1) C dL_law_1429 (by decide) ?_
  refine jv_iadd C dL_law_1430 ?_
  refine jv_sld C SC dL_law_1431 h (fun v4 h => ?_)
  refine jv_vI0 (As := [.int v4]) C lk_L_227 rfl dL_law_1432 rfl rfl (by decide) (by omega) (by omega) (Nat.le_of_ble_eq_true rfl) h (fun _ _ h => ct_X10_restoreSnapshot h) (fun v6 M5 h => ?_)
  refine jv_icmp_eq (tgt := 1440) C dL_law_1435 (by decide) h (fun h => ?_) (fun h => ?_)
  · cases h
    refine jv_widen (ce' := ce + 1) (sl' := sl + 6) (by omega) (by omega) ?_
    exact kk _
  · refine jv_iconst (v := 0) C dL_law_1438 (by decide) ?_
    exact jv_no h
