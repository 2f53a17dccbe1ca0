/-! PURE: what stays well formed -/
theorem gS1 {l : List Int32} {j : Nat} {v : Int32} (h : j < l.length) : (l.set j v).getD j 0 = v := by simp [List.getD_eq_getElem?_getD, h]
theorem gS2 {l : List Int32} {i j : Nat} {v : Int32} (h : ¬ i = j) : (l.set j v).getD i 0 = l.getD i 0 := by
  rw [List.getD_eq_getElem?_getD, List.getElem?_set_ne (fun z => h z.symm), List.getD_eq_getElem?_getD]
section WP
variable {κ : Cf} {σ σ' : St} {U : List St} {sn : Nat → Option St}
theorem WF.push (w : WF κ σ U sn) (h : WFS κ σ') : WF κ σ' (pushU σ U) sn := by
  refine ⟨w.1, h, fun u hu => ?_, w.2.2.2⟩
  have hu' : u ∈ σ :: U := List.mem_of_mem_take hu
  rcases List.mem_cons.mp hu' with q | q
  · rw [q]; exact w.2.1
  · exact w.2.2.1 u q
theorem wf_cb (w : WF κ σ U sn) (t d a : Int32) : WF κ (cbI κ σ U t d a).2.1 (cbI κ σ U t d a).2.2 sn := by
  unfold cbI
  by_cases h1 : hasI (κ.2 0).length t = true
  · rw [if_pos h1]
    by_cases h2 : meI d a = true
    · rw [if_pos h2]
      refine w.push ?_
      have wl := w.1.1.1
      obtain ⟨x, y, x1, x2, y1, rfl, rfl⟩ := meI_of h2
      obtain ⟨j, hj, rfl⟩ := hasI_of h1 (by omega)
      obtain ⟨-, ⟨n1, a1, a2, a3⟩, -, ⟨n3, b1, b2, b3⟩, -⟩ := w.1.2.1 j hj
      have l1 := w.1.1.2.1 1 (by omega)
      have l3 := w.1.1.2.1 3 (by omega)
      obtain ⟨w1, w2, w3, w4, w5, w6, w7, w8, w9, w10, w11, w12⟩ := w.2.1
      refine ⟨w1, w2, w3, w4, w5, w6, w7, w8, ⟨n1, x, a2, x2, ?_⟩, ⟨n3, y, b2, y1, ?_⟩, w11, w12⟩
      · show atI (κ.2 1) (nI j) - nI x = nI n1 - nI x
        rw [atI_nI (by omega) (by omega), a3]
      · show atI (κ.2 3) (nI j) - nI y = nI n3 - nI y
        rw [atI_nI (by omega) (by omega), b3]
    · rw [if_neg h2]
      exact w
  · rw [if_neg h1]
    exact w
theorem wf_sm (w : WF κ σ U sn) (m : Int32) : WF κ (smI σ U m).2.1 (smI σ U m).2.2 sn := by
  unfold smI
  by_cases h1 : m < 0
  · rw [if_pos h1]; exact w
  · rw [if_neg h1]
    by_cases h2 : 2000 < m
    · rw [if_pos h2]; exact w
    · rw [if_neg h2]
      refine w.push ?_
      obtain ⟨w1, w2, w3, w4, w5, w6, w7, w8, w9, w10, w11, w12⟩ := w.2.1
      exact ⟨w1, w2, w3, w4, w5, w6, w7, ng_of (a := 0) (b := 2000) (by decide) (by decide) h1 (Int32.not_lt.mp h2), w9, w10, w11, w12⟩
theorem wf_in (w : WF κ σ U sn) (d a : Int32) : WF κ (inI σ U d a).2.1 (inI σ U d a).2.2 sn := by
  unfold inI
  by_cases h1 : meI d a = true
  · rw [if_pos h1]
    by_cases h2 : (σ.2 0).length < 60
    · rw [if_pos h2]
      refine w.push ?_
      obtain ⟨x, y, x1, x2, y1, rfl, rfl⟩ := meI_of h1
      obtain ⟨w1, w2, w3, w4, w5, w6, w7, w8, w9, w10, w11, w12⟩ := w.2.1
      refine ⟨w1, w2, w3, w4, w5, w6, w7, w8, w9, w10, fun i hi => ?_, w12⟩
      have hi' : i < (σ.2 0 ++ [nI x * 10000 + nI y]).length := hi
      rw [app_len] at hi'
      show ∃ d a, 1 ≤ d ∧ d ≤ 4000 ∧ a ≤ 9999 ∧ (σ.2 0 ++ [nI x * 10000 + nI y]).getD i 0 = nI (d * 10000 + a)
      by_cases q : i < (σ.2 0).length
      · rw [gA q]
        exact w11 i q
      · rw [gB (by omega), coin_nI]
        exact ⟨x, y, x1, x2, y1, rfl⟩
    · rw [if_neg h2]; exact w
  · rw [if_neg h1]; exact w
theorem wf_cj (w : WF κ σ U sn) : WF κ (cjI σ U).2.1 (cjI σ U).2.2 sn := by
  unfold cjI
  by_cases h1 : σ.1 3 = 0
  · rw [if_pos h1]; exact w
  · rw [if_neg h1]
    refine w.push ?_
    obtain ⟨w1, w2, w3, w4, w5, w6, w7, w8, w9, w10, w11, w12⟩ := w.2.1
    exact ⟨w1, w2, w3, w4, w5, w6, Or.inl rfl, w8, w9, w10, w11, w12⟩
theorem wf_bg (w : WF κ σ U sn) (e7 : (σ.2 7).length = (σ.2 5).length) (b : Int32) : WF κ (bgI κ σ U b).2.1 (bgI κ σ U b).2.2 sn := by
  unfold bgI
  by_cases h1 : hasI (κ.2 10).length b = true
  · rw [if_pos h1]
    by_cases h2 : atI (σ.2 2) b = 0
    · rw [if_pos h2]; exact w
    · rw [if_neg h2]
      by_cases h3 : (σ.2 5).length < 30
      · rw [if_pos h3]
        refine w.push ?_
        have wl := w.1.1.2.2.2.2.1
        obtain ⟨j, hj, rfl⟩ := hasI_of h1 (by omega)
        obtain ⟨⟨t, t1, t2⟩, -⟩ := w.1.2.2.2.1 j hj
        obtain ⟨w1, w2, w3, w4, w5, w6, w7, w8, w9, w10, w11, w12⟩ := w.2.1
        obtain ⟨n, z, n1, n2, n3, n4⟩ := w2 j hj
        have cl : (nI j).toNatClampNeg = j := nI_clamp (by omega)
        refine ⟨?_, fun i hi => ?_, w3, fun i hi => ?_, fun i hi => ?_, w6, w7, w8, w9, w10, w11, w12⟩
        · show ((σ.2 2).set (nI j).toNatClampNeg _).length = (κ.2 10).length
          rw [List.length_set]
          exact w1
        · show ∃ n z, ((σ.2 2).set (nI j).toNatClampNeg ((σ.2 2).getD (nI j).toNatClampNeg 0 + (0 - atI (σ.2 2) (nI j)))).getD i 0 = nI n ∧ (κ.2 11).getD i 0 = nI z ∧ n ≤ z ∧ z ≤ 100
          rw [cl, atI_nI (by omega) (by omega), n1, nI_subz (Nat.le_refl _)]
          by_cases q : i = j
          · rw [q, gS1 (by omega)]
            exact ⟨n - n, z, rfl, n2, by omega, n4⟩
          · rw [gS2 q]
            exact w2 i hi
        · have hi' : i < (σ.2 5 ++ [atI (κ.2 10) (nI j)]).length := hi
          rw [app_len] at hi'
          show ∃ t, t < (κ.2 0).length ∧ (σ.2 5 ++ [atI (κ.2 10) (nI j)]).getD i 0 = nI t
          by_cases q : i < (σ.2 5).length
          · rw [gA q]
            exact w4 i q
          · rw [gB (by omega), atI_nI hj (by omega)]
            exact ⟨t, t1, t2⟩
        · have hi' : i < (σ.2 7 ++ [-1]).length := hi
          rw [app_len] at hi'
          show (σ.2 7 ++ [-1]).getD i 0 = -1 ∨ Ng 0 200 ((σ.2 7 ++ [-1]).getD i 0)
          by_cases q : i < (σ.2 7).length
          · rw [gA q]
            exact w5 i q
          · rw [gB (by omega)]
            exact Or.inl rfl
      · rw [if_neg h3]; exact w
  · rw [if_neg h1]; exact w
theorem wf_as (w : WF κ σ U sn) (e9 : (σ.2 9).length = (σ.2 8).length) (d a l : Int32) : WF κ (asI κ σ U d a l).2.1 (asI κ σ U d a l).2.2 sn := by
  unfold asI
  by_cases h1 : meI d a = true
  · rw [if_pos h1]
    by_cases h2 : l = -1 ∨ hasI (κ.2 0).length l = true
    · rw [if_pos h2]
      by_cases h3 : (σ.2 8).length < 40
      · rw [if_pos h3]
        refine w.push ?_
        obtain ⟨x, y, x1, x2, y1, rfl, rfl⟩ := meI_of h1
        have wl := w.1.1.1
        obtain ⟨w1, w2, w3, w4, w5, w6, w7, w8, w9, w10, w11, w12⟩ := w.2.1
        refine ⟨w1, w2, w3, w4, w5, fun i hi => ?_, w7, w8, w9, w10, w11, fun i hi => ?_⟩
        · have hi' : i < (σ.2 9 ++ [l]).length := hi
          rw [app_len] at hi'
          show (σ.2 9 ++ [l]).getD i 0 = -1 ∨ ∃ t, t < (κ.2 0).length ∧ (σ.2 9 ++ [l]).getD i 0 = nI t
          by_cases q : i < (σ.2 9).length
          · rw [gA q]
            exact w6 i q
          · rw [gB (by omega)]
            rcases h2 with h2 | h2
            · exact Or.inl h2
            · obtain ⟨j, hj, hl⟩ := hasI_of h2 (by omega)
              exact Or.inr ⟨j, hj, hl⟩
        · have hi' : i < (σ.2 8 ++ [nI x * 10000 + nI y]).length := hi
          rw [app_len] at hi'
          show ∃ d a, 1 ≤ d ∧ d ≤ 4000 ∧ a ≤ 9999 ∧ (σ.2 8 ++ [nI x * 10000 + nI y]).getD i 0 = nI (d * 10000 + a)
          by_cases q : i < (σ.2 8).length
          · rw [gA q]
            exact w12 i q
          · rw [gB (by omega), coin_nI]
            exact ⟨x, y, x1, x2, y1, rfl⟩
      · rw [if_neg h3]; exact w
    · rw [if_neg h2]; exact w
  · rw [if_neg h1]; exact w
theorem ad_t (b x : Int32) : (adI σ U b x).1 = 0 ∨ (adI σ U b x).1 = 1 ∨ (adI σ U b x).1 = 2 ∨ (adI σ U b x).1 = 3 := by
  unfold adI
  split
  · split
    · exact Or.inr (Or.inr (Or.inl rfl))
    · split
      · split
        · exact Or.inl rfl
        · exact Or.inr (Or.inr (Or.inr rfl))
      · exact Or.inr (Or.inr (Or.inl rfl))
  · exact Or.inr (Or.inl rfl)
theorem wf_ad (w : WF κ σ U sn) (e7 : (σ.2 7).length = (σ.2 5).length) (l5 : (σ.2 5).length ≤ 30) (b x : Int32) : WF κ (adI σ U b x).2.2.1 (adI σ U b x).2.2.2 sn := by
  unfold adI
  by_cases h1 : hasI (σ.2 5).length b = true
  · rw [if_pos h1]
    by_cases h2 : x < 0
    · rw [if_pos h2]; exact w
    · rw [if_neg h2]
      by_cases h3 : x ≤ 200
      · rw [if_pos h3]
        by_cases h4 : atI (σ.2 7) b = -1
        · rw [if_pos h4]
          refine w.push ?_
          obtain ⟨j, hj, rfl⟩ := hasI_of h1 (by omega)
          have cl : (nI j).toNatClampNeg = j := nI_clamp (by omega)
          obtain ⟨w1, w2, w3, w4, w5, w6, w7, w8, w9, w10, w11, w12⟩ := w.2.1
          refine ⟨w1, w2, w3, w4, fun i hi => ?_, w6, w7, w8, w9, w10, w11, w12⟩
          have hi' : i < ((σ.2 7).set (nI j).toNatClampNeg x).length := hi
          rw [List.length_set] at hi'
          show ((σ.2 7).set (nI j).toNatClampNeg x).getD i 0 = -1 ∨ Ng 0 200 (((σ.2 7).set (nI j).toNatClampNeg x).getD i 0)
          rw [cl]
          by_cases q : i = j
          · rw [q, gS1 (by omega)]
            exact Or.inr (ng_of (a := 0) (b := 200) (by decide) (by decide) h2 h3)
          · rw [gS2 q]
            exact w5 i hi'
        · rw [if_neg h4]; exact w
      · rw [if_neg h3]; exact w
  · rw [if_neg h1]; exact w
theorem wf_ud (w : WF κ σ U sn) : WF κ (udI σ U).2.1 (udI σ U).2.2 sn := by
  cases U with
  | nil => exact w
  | cons u V => exact ⟨w.1, w.2.2.1 u List.mem_cons_self, fun v hv => w.2.2.1 v (List.mem_cons_of_mem _ hv), w.2.2.2⟩
theorem wf_rn1 (wk : WFK κ) : ∀ (n : Nat) (σ : St), WFS κ σ → (σ.2 3).length = 4 → WFS κ (rnS κ n σ).2 := by
  intro n
  induction n with
  | zero => intro σ ws _; exact ws
  | succ n ih =>
    intro σ ws l3
    rw [rnS]
    by_cases g : nxI κ σ = -2 ∨ nxI κ σ = 30
    · rw [if_pos g]
      exact ws
    · rw [if_neg g]
      obtain ⟨a, b⟩ := ws.mv wk l3 (nx_step wk (fun q => g (Or.inl q)) (fun q => g (Or.inr q)))
      exact ih _ a b
theorem wf_rn (w : WF κ σ U sn) (l3 : (σ.2 3).length = 4) (x : Int32) : WF κ (rnI κ σ U x).2.1 (rnI κ σ U x).2.2 sn := by
  unfold rnI
  by_cases g : 1 ≤ x ∧ x ≤ 100
  · rw [if_pos g]
    have h1 := wf_rn1 w.1 x.toNatClampNeg σ w.2.1 l3
    by_cases z : (rnS κ x.toNatClampNeg σ).1 = 0
    · rw [if_pos z]
      exact ⟨w.1, h1, w.2.2.1, w.2.2.2⟩
    · rw [if_neg z]
      exact w.push h1
  · rw [if_neg g]; exact w
theorem wf_st (w : WF κ σ U sn) (l3 : (σ.2 3).length = 4) : WF κ (if nxI κ σ = -2 ∨ nxI κ σ = 30 then (-2, σ, U) else (nxI κ σ, mvI κ σ (nxI κ σ), pushU σ U) : Oc).2.1 (if nxI κ σ = -2 ∨ nxI κ σ = 30 then (-2, σ, U) else (nxI κ σ, mvI κ σ (nxI κ σ), pushU σ U) : Oc).2.2 sn := by
  by_cases g : nxI κ σ = -2 ∨ nxI κ σ = 30
  · rw [if_pos g]; exact w
  · rw [if_neg g]
    exact w.push (w.2.1.mv w.1 l3 (nx_step w.1 (fun q => g (Or.inl q)) (fun q => g (Or.inr q)))).1
theorem wf_ds {x : Int32} {o : Oc} (w : WF κ σ U sn) (h : DsR κ σ U x o) : WF κ o.2.1 o.2.2 sn := by
  unfold DsR at h
  by_cases g : 1 ≤ x ∧ x ≤ 5000
  · rw [if_pos g] at h
    rcases h with ⟨h, -⟩ | ⟨n, -, -, h⟩
    · rw [h]; exact w
    · rw [h]
      refine w.push ?_
      obtain ⟨w1, w2, w3, w4, w5, w6, w7, w8, w9, w10, w11, w12⟩ := w.2.1
      refine ⟨?_, fun i hi => ?_, w3, w4, w5, w6, w7, w8, w9, w10, w11, w12⟩
      · show (rgL (dbL κ σ n (κ.2 10).length) (κ.2 10).length).length = (κ.2 10).length
        exact rgL_len
      · show ∃ m z, (rgL (dbL κ σ n (κ.2 10).length) (κ.2 10).length).getD i 0 = nI m ∧ (κ.2 11).getD i 0 = nI z ∧ m ≤ z ∧ z ≤ 100
        obtain ⟨m, z, m1, m2, m3, m4⟩ := w2 i hi
        rw [rgL_get hi]
        unfold dbL
        rw [if_pos hi]
        have hc : cnN σ i = m := by unfold cnN; rw [m1, nI_clamp (by omega)]
        exact ⟨_, z, rfl, m2, by omega, m4⟩
  · rw [if_neg g] at h
    rw [h]; exact w
theorem wf_sv (w : WF κ σ U sn) (x : Int32) : WF κ σ U (svS sn σ x) := by
  refine ⟨w.1, w.2.1, w.2.2.1, fun j t h => ?_⟩
  unfold svS at h
  by_cases g : 0 ≤ x ∧ x ≤ 1
  · rw [if_pos g] at h
    by_cases z : j = x.toNatClampNeg
    · rw [z, va_up_self] at h
      cases h
      exact w.2.1
    · rw [va_up_ne _ _ z] at h
      exact w.2.2.2 j t h
  · rw [if_neg g] at h
    exact w.2.2.2 j t h
theorem wf_rs (w : WF κ σ U sn) (x : Int32) : WF κ (rsI sn σ U x).2.1 (rsI sn σ U x).2.2 sn := by
  by_cases g : 0 ≤ x ∧ x ≤ 1
  · cases e : sn x.toNatClampNeg with
    | none => rw [rsI_none g e]; exact w
    | some t =>
      rw [rsI_some g e]
      exact ⟨w.1, w.2.2.2 _ t e, fun u hu => absurd hu (by simp), w.2.2.2⟩
  · rw [rsI_no g]; exact w
theorem wf_pa {bf : List Int32} (w : WF κ σ U sn) (hl : bf.length ≤ 800) (x : Int32) (hk : (psI bf x.toNatClampNeg).1.1 = 0 → 0 ≤ x ∧ x ≤ nI bf.length → WFK (psI bf x.toNatClampNeg).2) : WF (paI (bf, κ, σ, U, sn) x).2.2.1 (paI (bf, κ, σ, U, sn) x).2.2.2.1 (paI (bf, κ, σ, U, sn) x).2.2.2.2.1 (paI (bf, κ, σ, U, sn) x).2.2.2.2.2 := by
  by_cases g : 0 ≤ x ∧ x ≤ nI bf.length
  · obtain ⟨n, hn, rfl⟩ : ∃ n, n ≤ bf.length ∧ x = nI n := nI_of2 (nI_toInt (by omega)) (Int32.not_lt.mpr g.1) g.2
    rw [nI_clamp (by omega)] at hk
    by_cases e : (psI bf n).1.1 = 0
    · rw [paI_ok (s := (bf, κ, σ, U, sn)) hn hl e]
      have wk := hk e g
      exact ⟨wk, wf_st0 wk, fun u hu => absurd hu (by simp), fun j t h => by cases h⟩
    · rw [paI_er (s := (bf, κ, σ, U, sn)) hn hl e]
      exact w
  · rw [paI_no (s := (bf, κ, σ, U, sn)) g]
    exact w
end WP
