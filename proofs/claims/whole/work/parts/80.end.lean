/-! PURE: the law's loop; the pure claim -/
theorem law_sw {L q : Nat} {xs : Nat → Int32} {M : Mem} (hI : Inv M) (hq : q + 6 ≤ L) (hL : L ≤ 3072) (j : Nat) : ∃ M', fn_law_sw NN L xs M (nI q) 0 389 404 j = some M' ∧ Inv M' := by
  have hN : 2 ^ 15 ≤ NN := by unfold NN; omega
  match j with
  | 0 => exact lc_0 (xs := xs) hN hI hq hL
  | 1 => exact lc_1 (xs := xs) hN hI hq hL
  | 2 => exact lc_2 (xs := xs) hN hI hq hL
  | 3 => exact lc_3 (xs := xs) hN hI hq hL
  | 4 => exact lc_4 (xs := xs) hN hI hq hL
  | 5 => exact lc_5 (xs := xs) hN hI hq hL
  | 6 => exact lc_6 (xs := xs) hN hI hq hL
  | 7 => exact lc_7 (xs := xs) hN hI hq hL
  | 8 => exact lc_8 (xs := xs) hN hI hq hL
  | 9 => exact lc_9 (xs := xs) hN hI hq hL
  | 10 => exact lc_10 (xs := xs) hN hI hq hL
  | 11 => exact lc_11 (xs := xs) hN hI hq hL
  | 12 => exact lc_12 (xs := xs) hN hI hq hL
  | 13 => exact lc_13 (xs := xs) hN hI hq hL
  | 14 => exact lc_14 (xs := xs) hN hI hq hL
  | 15 => exact lc_15 (xs := xs) hN hI hq hL
  | 16 => exact lc_16 (xs := xs) hN hI hq hL
  | 17 => exact lc_17 (xs := xs) hN hI hq hL
  | 18 => exact lc_18 (xs := xs) hN hI hq hL
  | 19 => exact lc_19 (xs := xs) hN hI hq hL
  | 20 => exact lc_20 (xs := xs) hN hI hq hL
  | 21 => exact lc_21 (xs := xs) hN hI hq hL
  | 22 => exact lc_22 (xs := xs) hN hI hq hL
  | 23 => exact lc_23 (xs := xs) hN hI hq hL
  | 24 => exact lc_24 (xs := xs) hN hI hq hL
  | 25 => exact lc_25 (xs := xs) hN hI hq hL
  | 26 => exact lc_26 (xs := xs) hN hI hq hL
  | 27 => exact lc_27 (xs := xs) hN hI hq hL
  | 28 => exact lc_28 (xs := xs) hN hI hq hL
  | 29 => exact lc_29 (xs := xs) hN hI hq hL
  | 30 => exact lc_30 (xs := xs) hN hI hq hL
  | 31 => exact lc_31 (xs := xs) hN hI hq hL
  | 32 => exact lc_32 (xs := xs) hN hI hq hL
  | 33 => exact lc_33 (xs := xs) hN hI hq hL
  | 34 => exact lc_34 (xs := xs) hN hI hq hL
  | 35 => exact lc_35 (xs := xs) hN hI hq hL
  | 36 => exact lc_36 (xs := xs) hN hI hq hL
  | 37 => exact lc_37 (xs := xs) hN hI hq hL
  | 38 => exact lc_38 (xs := xs) hN hI hq hL
  | 39 => exact lc_39 (xs := xs) hN hI hq hL
  | 40 => exact lc_40 (xs := xs) hN hI hq hL
  | 41 => exact lc_41 (xs := xs) hN hI hq hL
  | 42 => exact lc_42 (xs := xs) hN hI hq hL
  | 43 => exact lc_43 (xs := xs) hN hI hq hL
  | 44 => exact lc_44 (xs := xs) hN hI hq hL
  | 45 => exact lc_45 (xs := xs) hN hI hq hL
  | 46 => exact lc_46 (xs := xs) hN hI hq hL
  | k + 47 => exact ⟨M, rfl, hI⟩
theorem law_loop {L : Nat} {xs : Nat → Int32} (hL : L ≤ 3072) : ∀ (n q : Nat) (M : Mem), Inv M → 1 ≤ n → L < q + 6 * n → q ≤ 4000 → ∃ M', fn_law_loop NN L xs 0 389 404 n M (nI q) = some M' := by
  intro n
  induction n with
  | zero => intro q M _ h; omega
  | succ n ih =>
    intro q M hI _ hn hq
    rw [fn_law_loop.eq_2]
    have hc : (Int32.ofNat L - 6 < nI q) ↔ L < q + 6 := by
      rw [Int32.lt_iff_toInt_lt, nI_toInt (by omega)]
      have e : (Int32.ofNat L - 6).toInt = (L : Int) - 6 := pk_sub_toInt (a := L) (b := 6) (by omega) (by omega)
      rw [e]
      omega
    by_cases g : L < q + 6
    · rw [if_pos (hc.mpr g)]
      exact ⟨M, rfl⟩
    · rw [if_neg (fun z => g (hc.mp z)), sc_at (j := q) rfl (by omega) hL, obs]
      obtain ⟨M1, e1, h1⟩ := law_sw (xs := xs) hI (show q + 6 ≤ L by omega) hL (xs q &&& 63).toNatClampNeg
      rw [e1, obs, show nI q + 6 = nI (q + 6) from nI_add q 6]
      exact ih (q + 6) M1 h1 (by omega) (by omega) (by omega)
theorem pure_main : PureMain := by
  intro L xs hL
  obtain ⟨M0, F, A, e, hx, hm, hr, hg⟩ := law_init
  have hI : Inv M0 := ⟨[], kf0, st0 kf0, [], fun _ => none, F, A, hx, hm, hr, ⟨wfk0, wf_st0 wfk0, fun u hu => absurd hu (by simp), fun j t h => by cases h⟩, hg⟩
  obtain ⟨M', e'⟩ := law_loop (xs := xs) hL 513 0 M0 hI (by omega) (by omega) (by omega)
  exact ⟨0, 389, 404, M0, M', e, e'⟩
