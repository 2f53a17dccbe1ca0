/-! PURE: the best margin -/
theorem i32_sub3 {n p q : Nat} (hn : n < 2 ^ 20) (hp : p < 2 ^ 20) (hq : q < 2 ^ 20) (h : p ≤ n + q) : nI n - (nI p - nI q) = nI (n + q - p) := by
  apply Int32.toInt_inj.mp
  rw [Int32.toInt_sub, pk_sub_toInt (by omega) (by omega), nI_toInt (by omega), nI_toInt (by omega), Int.bmod_eq_of_le (by omega) (by omega)]
  omega
theorem dev_form {p q n t : Nat} (hp : p ≤ 20000) (hq : q ≤ 20000) (hn : n ≤ 10000) (h1 : 1 ≤ t) (h2 : t ≤ 500) : ∃ v, v < 2 ^ 30 ∧ devI (nI p - nI q) (nI n) (nI t) = nI v := by
  unfold devI
  rw [if_pos (show 1 ≤ nI t from nI_le (a := 1) h1 (by omega))]
  have hx : (nI p - nI q).toInt = (p : Int) - q := pk_sub_toInt (by omega) (by omega)
  have main : ∀ z, z ≤ 40000 → ∃ v, v < 2 ^ 30 ∧ (1000 * nI z + nI t - 1) / nI t = nI v := by
    intro z hz
    rw [lM, nI_add, lS (by omega), pk_div (by omega) (by omega) (by omega)]
    exact ⟨_, Nat.lt_of_le_of_lt (Nat.div_le_self _ _) (by omega), rfl⟩
  by_cases hc : nI n ≤ nI p - nI q
  · rw [if_pos hc]
    have := Int32.le_iff_toInt_le.mp hc
    rw [hx, nI_toInt (by omega)] at this
    rw [pk_sub (show q ≤ p by omega), pk_sub (show n ≤ p - q by omega)]
    exact main _ (by omega)
  · rw [if_neg hc]
    have := Int32.lt_iff_toInt_lt.mp (Int32.not_le.mp hc)
    rw [hx, nI_toInt (by omega)] at this
    rw [i32_sub3 (by omega) (by omega) (by omega) (by omega)]
    exact main _ (by omega)
def CoD (d : Int32) : Prop := ∃ p q, p ≤ 20000 ∧ q ≤ 20000 ∧ d = nI p - nI q
theorem sc_form {κ : Cf} (w : WFK κ) {i : Nat} (hi : i < (κ.2 0).length) {d a : Int32} (hd : CoD d) (ha : CoD a) : scI κ 0 (nI i) d a = 1000000 ∨ ∃ n, n ≤ 2000 ∧ scI κ 0 (nI i) d a = nI n := by
  have h8 := w.1.1
  have e1 := w.1.2.1 1 (by omega)
  have e2 := w.1.2.1 2 (by omega)
  have e3 := w.1.2.1 3 (by omega)
  have e4 := w.1.2.1 4 (by omega)
  obtain ⟨-, ⟨n1, a1, b1, c1⟩, ⟨n2, a2, b2, c2⟩, ⟨n3, a3, b3, c3⟩, ⟨n4, a4, b4, c4⟩⟩ := w.2.1 i hi
  obtain ⟨p, q, hp, hq, rfl⟩ := hd
  obtain ⟨p', q', hp', hq', rfl⟩ := ha
  unfold scI
  simp only [Nat.zero_add]
  rw [atI_nI (by omega) (by omega), atI_nI (by omega) (by omega), atI_nI (by omega) (by omega), atI_nI (by omega) (by omega), c1, c2, c3, c4]
  obtain ⟨v1, hv1, g1⟩ := dev_form (p := p) (q := q) (n := n1) (t := n2) hp hq (by omega) a2 (by omega)
  obtain ⟨v2, hv2, g2⟩ := dev_form (p := p') (q := q') (n := n3) (t := n4) hp' hq' (by omega) a4 (by omega)
  rw [g1, g2]
  by_cases k1 : 1000 < nI v1
  · rw [if_pos k1]; exact Or.inl rfl
  · rw [if_neg k1]
    by_cases k2 : nI v2 ≤ 1000
    · rw [if_pos k2, nI_add]
      have l1 : ¬ 1000 < v1 := fun q => k1 ((lLt (m := 1000) (by decide) (by omega)).mpr q)
      have l2 : v2 ≤ 1000 := (lGe (m := 1000) (by decide) (by omega)).mp k2
      exact Or.inr ⟨v1 + v2, by omega, rfl⟩
    · rw [if_neg k2]; exact Or.inl rfl
theorem ex_form {κ : Cf} (w : WFK κ) {d a : Int32} (hd : CoD d) (ha : CoD a) (t0 : Int32) : ∀ k, k ≤ (κ.2 0).length → ((exT κ d a t0 k).2.1 = 1000000 ∧ (exT κ d a t0 k).2.2 = 1000000) ∨ ∃ n, n ≤ 2000 ∧ (exT κ d a t0 k).2.1 = nI n ∧ ((exT κ d a t0 k).2.2 = 1000000 ∨ ∃ n', n ≤ n' ∧ n' ≤ 2000 ∧ (exT κ d a t0 k).2.2 = nI n') := by
  intro k
  induction k with
  | zero => intro _; exact Or.inl ⟨rfl, rfl⟩
  | succ k ih =>
    intro hk
    have ih := ih (by omega)
    rw [exT]
    have hs := sc_form w (show k < (κ.2 0).length by omega) hd ha
    generalize exT κ d a t0 k = p at *
    generalize scI κ 0 (nI k) d a = sc at *
    have far : ∀ m, m ≤ 2000 → ¬ (1000000 : Int32) ≤ nI m := fun m hm => nI_ge (b := 1000000) (by omega) (by omega)
    have far2 : ∀ m, m ≤ 2000 → nI m ≤ (1000000 : Int32) := fun m hm => nI_le (b := 1000000) (by omega) (by omega)
    by_cases c1 : p.2.1 ≤ sc
    · rw [if_pos c1]
      by_cases c2 : p.2.2 ≤ sc
      · rw [if_pos c2]; exact ih
      · rw [if_neg c2]
        rcases ih with ⟨h1, h2⟩ | ⟨n, n1, n2, n3⟩
        · exfalso
          rw [h2] at c2
          rw [h1] at c1
          exact c2 c1
        · right
          refine ⟨n, n1, n2, ?_⟩
          rcases hs with rfl | ⟨m, m1, rfl⟩
          · exact Or.inl rfl
          · right
            refine ⟨m, ?_, m1, rfl⟩
            rw [n2, nI_leI (by omega) (by omega)] at c1
            exact c1
    · rw [if_neg c1]
      rcases hs with rfl | ⟨m, m1, rfl⟩
      · exfalso
        rcases ih with ⟨h1, h2⟩ | ⟨n, n1, n2, n3⟩
        · rw [h1] at c1; exact c1 (Int32.le_refl _)
        · rw [n2] at c1; exact c1 (far2 n n1)
      · right
        refine ⟨m, m1, rfl, ?_⟩
        rcases ih with ⟨h1, h2⟩ | ⟨n, n1, n2, n3⟩
        · exact Or.inl h1
        · right
          refine ⟨n, ?_, n1, n2⟩
          rw [n2, nI_leI (by omega) (by omega)] at c1
          omega
/-- the gap is a number up to 2000; where it isn't 2000 the coin has a type and two scores -/
theorem gap_form {κ : Cf} (w : WFK κ) {d a : Int32} (hd : CoD d) (ha : CoD a) : ∃ g, g ≤ 2000 ∧ (vdS κ d a).2 = nI g ∧ vdI κ d a 0 = (vdS κ d a).1 ∧ (g = 2000 ∨ (vdI κ d a 0 < 20 ∧ ¬ (exT κ d a (-2) (κ.2 0).length).2.2 = 1000000 ∧ (exT κ d a (-2) (κ.2 0).length).2.2 - (exT κ d a (-2) (κ.2 0).length).2.1 = nI g)) ∧ (g = 2000 → ¬ vdI κ d a 0 < 20 ∨ (exT κ d a (-2) (κ.2 0).length).2.2 = 1000000 ∨ (exT κ d a (-2) (κ.2 0).length).2.2 - (exT κ d a (-2) (κ.2 0).length).2.1 = nI 2000) := by
  have h8 := w.1.1
  obtain ⟨x1, x2, x3, x4, x5⟩ := ex_fact κ d a (κ.2 0).length
  have hf := ex_form w hd ha (-2) (κ.2 0).length (Nat.le_refl _)
  have ht := exT_form κ d a (κ.2 0).length
  unfold vdI vdS vdP
  by_cases hc : vdc (exT κ d a 23 (κ.2 0).length) (exF κ d a (κ.2 5).length) = true
  · rw [if_pos hc, if_pos (by decide)]
    exact ⟨2000, by omega, rfl, rfl, Or.inl rfl, fun _ => Or.inl (by decide)⟩
  · rw [if_neg hc]
    dsimp only
    rw [x1]
    by_cases hs : (exT κ d a (-2) (κ.2 0).length).2.2 = 1000000
    · rw [if_pos hs, if_pos (by decide)]
      exact ⟨2000, by omega, rfl, rfl, Or.inl rfl, fun _ => Or.inr (Or.inl hs)⟩
    · rw [if_neg hs]
      rcases hf with ⟨f1, f2⟩ | ⟨n, n1, n2, n3⟩
      · exact absurd f2 hs
      · rcases n3 with q | ⟨n', m1, m2, m3⟩
        · exact absurd q hs
        · rw [n2, m3, pk_sub m1, if_pos (nI_pos' (by omega))]
          refine ⟨n' - n, by omega, rfl, rfl, ?_, fun e => Or.inr (Or.inr (by rw [e]))⟩
          right
          refine ⟨?_, by rw [m3] at hs; exact hs, rfl⟩
          rcases ht with t | ⟨j, j1, j2⟩
          · exfalso
            by_cases hl : (exT κ d a (-2) (κ.2 0).length).2.1 = 1000000
            · exact hs (x4 hl).2
            · have e := x5 hl
              rw [t] at e
              have hlow : ∀ k, (exT κ d a (-2) k).1 = -2 ∨ ∃ j, j < k ∧ (exT κ d a (-2) k).1 = nI j := by
                intro k
                induction k with
                | zero => exact Or.inl rfl
                | succ k ih =>
                  have ih' : (exT κ d a (-2) k).1 = -2 ∨ ∃ j, j < k + 1 ∧ (exT κ d a (-2) k).1 = nI j := by
                    rcases ih with h | ⟨j, h1, h2⟩
                    · exact Or.inl h
                    · exact Or.inr ⟨j, by omega, h2⟩
                  rw [exT]
                  split
                  · split
                    · exact ih'
                    · exact ih'
                  · exact Or.inr ⟨k, by omega, rfl⟩
              rcases hlow (κ.2 0).length with z | ⟨j, j1, j2⟩
              · rw [z] at e; exact absurd e (by decide)
              · rw [j2] at e
                have := (nI_eq (a := 23) (b := j) (by omega) (by omega)).mp e
                omega
          · rw [j2]
            exact nI_lt (b := 20) (by omega) (by omega)
def smD (σ : St) (k : Nat) : Int32 := (σ.2 8).getD k 0 / 10000 + σ.1 0
def smA (σ : St) (k : Nat) : Int32 := (σ.2 8).getD k 0 - (σ.2 8).getD k 0 / 10000 * 10000 + σ.1 1
theorem co_add {x a b : Nat} (hx : x ≤ 10000) (ha : a ≤ 10000) (hb : b ≤ 10000) : CoD (nI x + (nI a - nI b)) := by
  refine ⟨x + a, b, by omega, by omega, ?_⟩
  rw [← nI_add, Int32.sub_eq_add_neg, Int32.sub_eq_add_neg, Int32.add_assoc]
theorem sm_co {κ : Cf} {σ : St} (ws : WFS κ σ) {k : Nat} (hk : k < (σ.2 8).length) : CoD (smD σ k) ∧ CoD (smA σ k) := by
  obtain ⟨-, -, -, -, -, -, -, -, ⟨a, b, a1, b1, e1⟩, ⟨a', b', a2, b2, e2⟩, -, w12⟩ := ws
  obtain ⟨x, y, x1, x2, y1, e⟩ := w12 k hk
  unfold smD smA
  rw [e, coin_a x2 y1, coin_d x2 y1, e1, e2]
  exact ⟨co_add (by omega) (by omega) (by omega), co_add (by omega) (by omega) (by omega)⟩
def gpN (κ : Cf) (σ : St) (k : Nat) : Nat := (vdS κ (smD σ k) (smA σ k)).2.toNatClampNeg
def rsN (κ : Cf) (σ : St) (k : Nat) : Int32 := csI ((σ.2 9).getD k 0) 21 - csI ((σ.2 9).getD k 0) (smV κ σ 0 k)
def pS (g : Nat → Nat) (r : Nat → Int32) (m : Nat) : Nat → Int32
  | 0 => 0
  | j + 1 => pS g r m j + (if g j < m then r j else 0)
/-- b is the least margin of the least sum l -/
def BestOf (P : Nat → Int32) (b : Nat) (l : Int32) : Prop := b ≤ 2000 ∧ P b = l ∧ ∀ m, m ≤ 2000 → l < P m ∨ (l = P m ∧ b ≤ m)
theorem best_eq {P : Nat → Int32} {b b' : Nat} {l l' : Int32} (h : BestOf P b l) (h' : BestOf P b' l') : b = b' := by
  obtain ⟨h1, h2, h3⟩ := h
  obtain ⟨k1, k2, k3⟩ := h'
  rcases h3 b' k1 with q | ⟨q1, q2⟩
  · rcases k3 b h1 with z | ⟨z1, z2⟩
    · rw [k2] at q
      rw [h2] at z
      have a := Int32.lt_iff_toInt_lt.mp q
      have b := Int32.lt_iff_toInt_lt.mp z
      omega
    · rw [k2, z1, h2] at q
      exact absurd q (by intro e; have := Int32.lt_iff_toInt_lt.mp e; omega)
  · rcases k3 b h1 with z | ⟨z1, z2⟩
    · rw [h2, q1, k2] at z
      exact absurd z (by intro e; have := Int32.lt_iff_toInt_lt.mp e; omega)
    · omega
theorem pS_0 {g : Nat → Nat} {r : Nat → Int32} : ∀ n, pS g r 0 n = 0 := by
  intro n
  induction n with
  | zero => rfl
  | succ n ih => rw [pS, ih, if_neg (by omega)]; rfl
theorem pS_same {g : Nat → Nat} {r : Nat → Int32} {m : Nat} : ∀ n, (∀ j, j < n → g j ≠ m) → pS g r (m + 1) n = pS g r m n := by
  intro n
  induction n with
  | zero => intro _; rfl
  | succ n ih =>
    intro h
    rw [pS, pS, ih (fun j hj => h j (by omega))]
    have := h n (by omega)
    by_cases q : g n < m
    · rw [if_pos q, if_pos (by omega)]
    · rw [if_neg q, if_neg (by omega)]
/-- looking at the candidates is enough -/
theorem cand {g : Nat → Nat} {r : Nat → Int32} {n b : Nat} {l : Int32} (hb : b ≤ 2000) (hl : pS g r b n = l) (h0 : l < 0 ∨ (l = 0 ∧ b = 0)) (hc : ∀ j, j < n → g j + 1 ≤ 2000 → l < pS g r (g j + 1) n ∨ (l = pS g r (g j + 1) n ∧ b ≤ g j + 1)) : BestOf (fun m => pS g r m n) b l := by
  refine ⟨hb, hl, fun m => ?_⟩
  induction m with
  | zero =>
    intro _
    dsimp only
    rw [pS_0]
    rcases h0 with q | ⟨q1, q2⟩
    · exact Or.inl q
    · exact Or.inr ⟨q1, by omega⟩
  | succ m ih =>
    intro hm
    by_cases q : ∃ j, j < n ∧ g j = m
    · obtain ⟨j, j1, rfl⟩ := q
      exact hc j j1 hm
    · have e : pS g r (m + 1) n = pS g r m n := pS_same n (fun j hj e => q ⟨j, hj, e⟩)
      dsimp only at ih ⊢
      rw [e]
      rcases ih (by omega) with z | ⟨z1, z2⟩
      · exact Or.inl z
      · exact Or.inr ⟨z1, by omega⟩
def rgL (f : Nat → Int32) (n : Nat) : List Int32 := (List.range n).map f
theorem rgL_len {f : Nat → Int32} {n : Nat} : (rgL f n).length = n := by simp [rgL]
theorem rgL_get {f : Nat → Int32} {n i : Nat} (h : i < n) : (rgL f n).getD i 0 = f i := by simp [rgL, List.getD_eq_getElem?_getD, h]
theorem rgL_succ {f : Nat → Int32} {n : Nat} : rgL f (n + 1) = rgL f n ++ [f n] := by simp [rgL, List.range_succ]
def TuAt (M : Mem) (lg lr : List Int32) : Prop := M[384]? = some (.inr (8, [.ref 385, .ref 387])) ∧ RowAt M 385 40 lg ∧ RowAt M 387 40 lr
section XT
variable {N : Nat} {M : Mem} {bf : List Int32} {κ : Cf} {σ : St} {U : List St} {sn : Nat → Option St}
theorem x_verdict7 (h : XAt M bf κ σ U sn) (hN : 2 ^ 15 ≤ N) (d a m : Int32) : ∃ M', fn_X9_verdict N M 0 d a m = some (vdI κ (d + σ.1 0) (a + σ.1 1) m, M') ∧ XAt M' bf κ σ U sn ∧ Fr M M' 377 378 ∧ mm_gI M' 377 2 1 = some (vdS κ (d + σ.1 0) (a + σ.1 1)).2 := by
  obtain ⟨cf, c1, hC, c2⟩ := h.cfg
  obtain ⟨s1, hS⟩ := h.st
  obtain ⟨m1, m2, hJ⟩ := h.sc.2.1
  have hf : ∀ n1 n2, Fr M (M.set 377 (.inr (2, [.int n1, .int n2]))) 377 378 := fun n1 n2 => Fr.set (by omega) (by omega)
  have hX : ∀ n1 n2, XAt (M.set 377 (.inr (2, [.int n1, .int n2]))) bf κ σ U sn := fun n1 n2 => h.setSc (h.sc.setJd n1 n2) ((hf n1 n2).mono (by omega) (by omega))
  have hJ2 : ∀ n1 n2, (M.set 377 (.inr (2, [Value.int n1, .int n2])))[377]? = some (.inr (2, [.int n1, .int n2])) := fun n1 n2 => st_self hJ
  unfold fn_X9_verdict
  simp only [h.jd, c1, s1, hS.gI (show 0 < 5 by decide), hS.gI (show 1 < 5 by decide), ev_ck hJ, Option.bind_some, ev_exam hC hJ hN, mm_b2, (hX _ _).jd, ev_ck (hJ2 _ _)]
  unfold fn_X2_verdictAt
  simp only [ev_gI (hJ2 _ _) (j := 1) rfl, ev_gI (hJ2 _ _) (j := 0) rfl, Option.bind_some]
  refine ⟨M.set 377 (.inr (2, [.int (vdS κ (d + σ.1 0) (a + σ.1 1)).1, .int (vdS κ (d + σ.1 0) (a + σ.1 1)).2])), ?_, hX _ _, hf _ _, ev_gI (hJ2 _ _) rfl⟩
  unfold vdI
  by_cases hm : m ≤ (vdS κ (d + σ.1 0) (a + σ.1 1)).2
  · simp only [if_pos hm]
  · simp only [if_neg hm]
theorem XAt.tun (h : XAt M bf κ σ U sn) : ∃ lg lr, TuAt M lg lr := by
  obtain ⟨-, -, -, -, -, -, -, h8, ⟨l2, h9⟩, ⟨l3, h10⟩⟩ := h.sc
  exact ⟨l2, l3, h8, h9, h10⟩
theorem XAt.setTu {M' : Mem} {lg lr : List Int32} (h : XAt M bf κ σ U sn) (ht : TuAt M' lg lr) (hf : Fr M M' 385 389) : XAt M' bf κ σ U sn := by
  refine h.setSc ?_ (hf.mono (by omega) (by omega))
  obtain ⟨h1, h2, h3, h4, h5, h6, ⟨l, h7⟩, h8, -, -⟩ := h.sc
  exact ⟨by rw [hf.2 2 (by omega)]; exact h1, by rw [hf.2 377 (by omega)]; exact h2, by rw [hf.2 378 (by omega)]; exact h3, by rw [hf.2 379 (by omega)]; exact h4, by rw [hf.2 380 (by omega)]; exact h5, by rw [hf.2 381 (by omega)]; exact h6, ⟨l, h7.keep hf (by omega)⟩, ht.1, ⟨lg, ht.2.1⟩, ⟨lr, ht.2.2⟩⟩
theorem tu_begin {lg lr : List Int32} (h : TuAt M lg lr) : ∃ M', fn_X8_begin N M 384 = some ((), M') ∧ TuAt M' [] [] ∧ Fr M M' 385 389 := by
  obtain ⟨h1, h2, h3⟩ := h
  unfold fn_X8_begin
  obtain ⟨M1, e1, r1, f1⟩ := row_empty (N := N) h2
  have k1 : M1[384]? = some (.inr (8, [.ref 385, .ref 387])) := by rw [f1.2 384 (by omega)]; exact h1
  have k3 := h3.keep f1 (by omega)
  obtain ⟨M2, e2, r2, f2⟩ := row_empty (N := N) k3
  rw [ev_gR h1 rfl, obs, row_ck h2, obs, e1, b2s, ev_gR k1 rfl, obs, row_ck k3, obs, e2, b2s]
  exact ⟨M2, rfl, ⟨by rw [f2.2 384 (by omega)]; exact k1, r1.keep f2 (by omega), r2⟩, (f1.mono (by omega) (by omega)).tr (f2.mono (by omega) (by omega))⟩
theorem tu_add {lg lr : List Int32} (h : TuAt M lg lr) (hl : lg.length < 40) (hl2 : lr.length < 40) (x y : Int32) : ∃ M', fn_X8_add N M 384 x y = some ((), M') ∧ TuAt M' (lg ++ [x]) (lr ++ [y]) ∧ Fr M M' 385 389 := by
  obtain ⟨h1, h2, h3⟩ := h
  unfold fn_X8_add
  obtain ⟨M1, e1, r1, f1⟩ := row_add (N := N) h2 hl x
  have k1 : M1[384]? = some (.inr (8, [.ref 385, .ref 387])) := by rw [f1.2 384 (by omega)]; exact h1
  have k3 := h3.keep f1 (by omega)
  obtain ⟨M2, e2, r2, f2⟩ := row_add (N := N) k3 hl2 y
  rw [ev_gR h1 rfl, obs, row_ck h2, obs, e1, b2s, ev_gR k1 rfl, obs, row_ck k3, obs, e2, b2s]
  exact ⟨M2, rfl, ⟨by rw [f2.2 384 (by omega)]; exact k1, r1.keep f2 (by omega), r2⟩, (f1.mono (by omega) (by omega)).tr (f2.mono (by omega) (by omega))⟩
theorem tu_rise {g : Nat → Nat} {r : Nat → Int32} {n q : Nat} (hg : ∀ j, j < n → g j ≤ 2000) (hn : n ≤ 40) (hq : q ≤ 3000) (h : TuAt M (rgL (fun j => nI (g j)) n) (rgL r n)) : ∀ (m i : Nat), i ≤ n → n - i < m → fn_X8_riseAt_4 N m M 384 (nI q) (pS g r q i) (nI i) = some (pS g r q n, M) := by
  obtain ⟨h1, h2, h3⟩ := h
  intro m
  induction m with
  | zero => intro i _ h; omega
  | succ m ih =>
    intro i hi hm
    rw [fn_X8_riseAt_4.eq_2, ev_gR h1 rfl, obs, row_size h2, obs, rgL_len]
    by_cases he : i = n
    · subst he
      rw [if_pos (Int32.le_refl _)]
    · have hgi := hg i (by omega)
      rw [if_neg (nI_ge (by omega) (by omega)), obs, row_ck h2, obs, row_at h2, b2s, atI_nI (by rw [rgL_len]; omega) (by rw [rgL_len]; omega), rgL_get (by omega)]
      simp only [fn_X8_riseAt_38]
      rw [nI_1, ev_gR h1 rfl, obs, row_ck h3, obs, row_at h3, b2s, atI_nI (by rw [rgL_len]; omega) (by rw [rgL_len]; omega), rgL_get (by omega)]
      have step := ih (i + 1) (by omega) (by omega)
      have hc := nI_leI (a := q) (b := g i) (by omega) (by omega)
      have hp : pS g r q (i + 1) = pS g r q i + (if g i < q then r i else 0) := rfl
      by_cases c : q ≤ g i
      · rw [if_pos (hc.mpr c)]
        rw [if_neg (by omega), Int32.add_zero] at hp
        rw [← hp]
        exact step
      · rw [if_neg (fun z => c (hc.mp z))]
        rw [if_pos (by omega)] at hp
        rw [← hp]
        exact step
theorem tu_best {g : Nat → Nat} {r : Nat → Int32} {n : Nat} (hN : 2 ^ 15 ≤ N) (hg : ∀ j, j < n → g j ≤ 2000) (hn : n ≤ 40) (h : TuAt M (rgL (fun j => nI (g j)) n) (rgL r n)) : ∀ (m i b : Nat) (l : Int32), i ≤ n → n - i < m → b ≤ 2000 → pS g r b n = l → (l < 0 ∨ (l = 0 ∧ b = 0)) → (∀ j, j < i → g j + 1 ≤ 2000 → l < pS g r (g j + 1) n ∨ (l = pS g r (g j + 1) n ∧ b ≤ g j + 1)) → ∃ b' l', fn_X8_best_6 N m M 384 (nI b) l (nI i) = some (nI b', M) ∧ BestOf (fun m => pS g r m n) b' l' := by
  have h' := h
  obtain ⟨h1, h2, h3⟩ := h
  intro m
  induction m with
  | zero => intro i b l _ h; omega
  | succ m ih =>
    intro i b l hi hm hb hl h0 hc
    rw [fn_X8_best_6.eq_2, ev_gR h1 rfl, obs, row_size h2, obs, rgL_len]
    by_cases he : i = n
    · subst he
      rw [if_pos (Int32.le_refl _)]
      exact ⟨b, l, rfl, cand hb hl h0 hc⟩
    · have hgi := hg i (by omega)
      have hrise := tu_rise (N := N) (q := g i + 1) hg hn (by omega) h' N 0 (by omega) (by omega)
      rw [nI_0] at hrise
      have hrise' : fn_X8_riseAt N M 384 (nI (g i + 1)) = some (pS g r (g i + 1) n, M) := hrise
      rw [if_neg (nI_ge (by omega) (by omega)), obs, row_ck h2, obs, row_at h2, b2s, atI_nI (by rw [rgL_len]; omega) (by rw [rgL_len]; omega), rgL_get (by omega)]
      simp only [fn_X8_best_69, fn_X8_best_63]
      rw [nI_1, nI_1, ev_ck h1, obs, hrise', b2s]
      have lt_irr : ∀ {x : Int32}, ¬ x < x := fun e => by have := Int32.lt_iff_toInt_lt.mp e; omega
      have keep : (∀ (_ : g i + 1 ≤ 2000), l < pS g r (g i + 1) n ∨ (l = pS g r (g i + 1) n ∧ b ≤ g i + 1)) → ∃ b' l', fn_X8_best_6 N m M 384 (nI b) l (nI (i + 1)) = some (nI b', M) ∧ BestOf (fun m => pS g r m n) b' l' := by
        intro hk
        refine ih (i + 1) b l (by omega) (by omega) hb hl h0 (fun j hj hj2 => ?_)
        by_cases e : j = i
        · subst e; exact hk hj2
        · exact hc j (by omega) hj2
      have take : g i + 1 ≤ 2000 → (pS g r (g i + 1) n < l ∨ (pS g r (g i + 1) n = l ∧ g i + 1 < b)) → ∃ b' l', fn_X8_best_6 N m M 384 (nI (g i + 1)) (pS g r (g i + 1) n) (nI (i + 1)) = some (nI b', M) ∧ BestOf (fun m => pS g r m n) b' l' := by
        intro hk hx
        refine ih (i + 1) (g i + 1) _ (by omega) (by omega) hk rfl ?_ (fun j hj hj2 => ?_)
        · rcases hx with q | ⟨q1, q2⟩
          · left
            apply Int32.lt_iff_toInt_lt.mpr
            have a := Int32.lt_iff_toInt_lt.mp q
            rcases h0 with z | ⟨z, -⟩
            · have b := Int32.lt_iff_toInt_lt.mp z; omega
            · rw [z] at a; exact a
          · rcases h0 with z | ⟨z, z2⟩
            · left; rw [q1]; exact z
            · omega
        · by_cases e : j = i
          · subst e; exact Or.inr ⟨rfl, by omega⟩
          · rcases hc j (by omega) hj2 with z | ⟨z1, z2⟩
            · left
              rcases hx with q | ⟨q1, q2⟩
              · apply Int32.lt_iff_toInt_lt.mpr
                have a := Int32.lt_iff_toInt_lt.mp q
                have b := Int32.lt_iff_toInt_lt.mp z
                omega
              · rw [q1]; exact z
            · rcases hx with q | ⟨q1, q2⟩
              · left; rw [← z1]; exact q
              · right; exact ⟨q1.trans z1, by omega⟩
      have hc2 := lLt (m := 2000) (n := g i + 1) (by decide) (by omega)
      by_cases c1 : 2000 < g i + 1
      · rw [if_pos (hc2.mpr c1)]
        exact keep (fun z => by omega)
      · rw [if_neg (fun z => c1 (hc2.mp z))]
        by_cases c2 : pS g r (g i + 1) n < l
        · rw [if_pos c2]
          exact take (by omega) (Or.inl c2)
        · rw [if_neg c2]
          by_cases c3 : pS g r (g i + 1) n = l
          · rw [if_pos c3]
            have hc4 := nI_leI (a := b) (b := g i + 1) (by omega) (by omega)
            by_cases c4 : b ≤ g i + 1
            · rw [if_pos (hc4.mpr c4)]
              exact keep (fun _ => Or.inr ⟨c3.symm, c4⟩)
            · rw [if_neg (fun z => c4 (hc4.mp z))]
              exact take (by omega) (Or.inr ⟨c3, by omega⟩)
          · rw [if_neg c3]
            refine keep (fun _ => Or.inl ?_)
            apply Int32.lt_iff_toInt_lt.mpr
            have a : ¬ (pS g r (g i + 1) n).toInt < l.toInt := fun z => c2 (Int32.lt_iff_toInt_lt.mpr z)
            have b : ¬ (pS g r (g i + 1) n).toInt = l.toInt := fun z => c3 (Int32.toInt_inj.mp z)
            omega
theorem gp_fact (w : WFK κ) (ws : WFS κ σ) {k : Nat} (hk : k < (σ.2 8).length) : gpN κ σ k ≤ 2000 ∧ (vdS κ (smD σ k) (smA σ k)).2 = nI (gpN κ σ k) := by
  obtain ⟨hd, ha⟩ := sm_co ws hk
  obtain ⟨g, g1, g2, -⟩ := gap_form w hd ha
  unfold gpN
  rw [g2, nI_clamp (by omega)]
  exact ⟨g1, rfl⟩
theorem x_bm (hN : 2 ^ 15 ≤ N) (w : WFK κ) (ws : WFS κ σ) (e9 : (σ.2 9).length = (σ.2 8).length) : ∀ (m i : Nat) (M : Mem), XAt M bf κ σ U sn → TuAt M (rgL (fun j => nI (gpN κ σ j)) i) (rgL (rsN κ σ) i) → i ≤ (σ.2 8).length → (σ.2 8).length - i < m → ∃ M' b l, fn_X9_bestMargin_9 N m M 0 (nI i) = some (nI b, M') ∧ XAt M' bf κ σ U sn ∧ Fr M M' 377 389 ∧ BestOf (fun m => pS (gpN κ σ) (rsN κ σ) m (σ.2 8).length) b l := by
  intro m
  induction m with
  | zero => intro i M _ _ _ h; omega
  | succ m ih =>
    intro i M h ht hi hm
    obtain ⟨s1, hS⟩ := h.st
    have hl := row_len hS.r8
    rw [fn_X9_bestMargin_9.eq_2, s1, obs, hS.g8, obs, row_size hS.r8, obs]
    by_cases he : i = (σ.2 8).length
    · subst he
      rw [if_pos (Int32.le_refl _), h.tu, obs, ev_ck ht.1, obs]
      obtain ⟨b, l, e1, e2⟩ := tu_best (N := N) hN (fun j hj => (gp_fact w ws hj).1) hl.1 ht N 0 0 0 (by omega) (by omega) (by omega) (pS_0 _) (Or.inr ⟨rfl, rfl⟩) (fun j hj => by omega)
      rw [nI_0] at e1
      have e1' : fn_X8_best N M 384 = some (nI b, M) := e1
      rw [e1', b2s]
      exact ⟨M, b, l, rfl, h, Fr.rf, e2⟩
    · rw [if_neg (nI_ge (by omega) (by omega)), obs, hS.g8, obs, row_ck hS.r8, obs, row_at hS.r8, b2s, s1, obs, hS.g9, obs, row_ck hS.r9, obs, row_at hS.r9, b2s, ev_dOf, b2s, ev_aOf, b2s, h.ck, obs, atI_nI (l := σ.2 8) (by omega) (by omega), atI_nI (l := σ.2 9) (by omega) (by omega)]
      obtain ⟨M1, e1, h1, f1, e2⟩ := x_verdict7 (N := N) h hN ((σ.2 8).getD i 0 / 10000) ((σ.2 8).getD i 0 - (σ.2 8).getD i 0 / 10000 * 10000) 0
      have ht1 : TuAt M1 (rgL (fun j => nI (gpN κ σ j)) i) (rgL (rsN κ σ) i) := ⟨by rw [f1.2 384 (by omega)]; exact ht.1, ht.2.1.keep f1 (by omega), ht.2.2.keep f1 (by omega)⟩
      have e2' : mm_gI M1 377 2 1 = some (nI (gpN κ σ i)) := by rw [e2]; exact congrArg some (gp_fact w ws (show i < (σ.2 8).length by omega)).2
      have e1' : fn_X9_verdict N M 0 ((σ.2 8).getD i 0 / 10000) ((σ.2 8).getD i 0 - (σ.2 8).getD i 0 / 10000 * 10000) 0 = some (smV κ σ 0 i, M1) := e1
      rw [e1', b2s, h1.tu, obs, h1.jd, obs, e2', obs, ev_cost, b2s, ev_cost, b2s, ev_ck ht1.1, obs]
      obtain ⟨M2, e3, ht2, f2⟩ := tu_add (N := N) ht1 (by rw [rgL_len]; omega) (by rw [rgL_len]; omega) (nI (gpN κ σ i)) (rsN κ σ i)
      have e3' : fn_X8_add N M1 384 (nI (gpN κ σ i)) (csI ((σ.2 9).getD i 0) 21 - csI ((σ.2 9).getD i 0) (smV κ σ 0 i)) = some ((), M2) := e3
      rw [e3', b2s, nI_1]
      have ht3 : TuAt M2 (rgL (fun j => nI (gpN κ σ j)) (i + 1)) (rgL (rsN κ σ) (i + 1)) := by rw [rgL_succ, rgL_succ]; exact ht2
      obtain ⟨M3, b, l, z1, z2, z3, z4⟩ := ih (i + 1) M2 (h1.setTu ht2 f2) ht3 (by omega) (by omega)
      exact ⟨M3, b, l, z1, z2, ((f1.mono (by omega) (by omega)).tr (f2.mono (by omega) (by omega))).tr z3, z4⟩
theorem x_bestMargin (h : XAt M bf κ σ U sn) (hN : 2 ^ 15 ≤ N) (w : WFK κ) (ws : WFS κ σ) (e9 : (σ.2 9).length = (σ.2 8).length) : ∃ M' b l, fn_X9_bestMargin N M 0 = some (nI b, M') ∧ XAt M' bf κ σ U sn ∧ Fr M M' 377 389 ∧ BestOf (fun m => pS (gpN κ σ) (rsN κ σ) m (σ.2 8).length) b l := by
  unfold fn_X9_bestMargin
  obtain ⟨lg, lr, ht⟩ := h.tun
  obtain ⟨s1, hS⟩ := h.st
  have hl := row_len hS.r8
  obtain ⟨M1, e1, ht1, f1⟩ := tu_begin (N := N) ht
  rw [h.tu, obs, ev_ck ht.1, obs, e1, b2s]
  obtain ⟨M3, b, l, z1, z2, z3, z4⟩ := x_bm (N := N) hN w ws e9 N 0 M1 (h.setTu ht1 f1) ht1 (by omega) (by omega)
  rw [nI_0] at z1
  exact ⟨M3, b, l, z1, z2, (f1.mono (by omega) (by omega)).tr z3, z4⟩
end XT
def preS (f : Nat → Int32) : Nat → Int32
  | 0 => f 0
  | m + 1 => preS f m + f (m + 1)
theorem preS_upd {f : Nat → Int32} {i : Nat} {r : Int32} : ∀ m, preS (upd f i (f i + r)) m = preS f m + (if i ≤ m then r else 0) := by
  intro m
  induction m with
  | zero =>
    rw [preS, preS]
    by_cases h : i = 0
    · subst h; rw [pk_us, if_pos (Nat.le_refl _)]
    · rw [pk_un (by omega), if_neg (by omega), Int32.add_zero]
  | succ m ih =>
    rw [preS, preS, ih]
    by_cases h : i = m + 1
    · subst h
      rw [pk_us, if_neg (by omega), if_pos (by omega), Int32.add_zero, Int32.add_assoc]
    · rw [pk_un (by omega)]
      by_cases h2 : i ≤ m
      · rw [if_pos h2, if_pos (by omega), Int32.add_assoc, Int32.add_assoc, Int32.add_comm r]
      · rw [if_neg h2, if_neg (by omega), Int32.add_zero, Int32.add_zero]
theorem preS_0 {f : Nat → Int32} : ∀ m, (∀ i, i ≤ m → f i = 0) → preS f m = 0 := by
  intro m
  induction m with
  | zero => intro h; rw [preS]; exact h 0 (by omega)
  | succ m ih => intro h; rw [preS, ih (fun i hi => h i (by omega)), h (m + 1) (by omega)]; rfl
section RT
variable {N : Nat} {F : Nat → Int32} {A : Nat → Nat → Int32} {bf : List Int32} {κ : Cf} {σ : St} {U : List St} {sn : Nat → Option St}
theorem rf_scan {P : Nat → Int32} {M : Mem} (h : MAt M F A) (hp : ∀ q, q ≤ 2000 → preS (A 28) q = P q) : ∀ (m i b : Nat) (l c : Int32), i ≤ 2001 → 2001 - i < m → b ≤ 2000 → l = P b → (b ≤ i) → (∀ q, q < i → l < P q ∨ (l = P q ∧ b ≤ q)) → (i = 0 ∧ c = 0 ∨ ∃ j, i = j + 1 ∧ c = P j) → (i = 0 → P 0 = l) → RW M (fn_X10_bestMargin_140 N m M 389 (nI b) l c (nI i)) (fun r F' A' => ∃ b' l', r = nI b' ∧ BestOf P b' l' ∧ F' = F ∧ A' = A) := by
  intro m
  induction m with
  | zero => intro i b l c _ h; omega
  | succ m ih =>
    intro i b l c hi hm hb hl hbi hq hcc h0
    rw [fn_X10_bestMargin_140.eq_2]
    have hc := lLt (m := 2000) (n := i) (by decide) (by omega)
    by_cases he : 2000 < i
    · rw [if_pos (hc.mpr he)]
      exact RW.ret h ⟨b, l, rfl, ⟨hb, hl.symm, fun m hm => hq m (by omega)⟩, rfl, rfl⟩
    · rw [if_neg (fun q => he (hc.mp q))]
      simp (disch := omega) only [MAt.ck h, MAt.i0 h, MAt.i2 h, MAt.i3 h, MAt.i4 h, MAt.i5 h, MAt.i6 h, MAt.i7 h, MAt.i8 h, MAt.i9 h, MAt.i15 h, MAt.i18 h, MAt.i21 h, MAt.i22 h, MAt.i23 h, MAt.i24 h, MAt.g1 h, MAt.n1 h, MAt.r1 h, MAt.l1 h, MAt.g10 h, MAt.n10 h, MAt.r10 h, MAt.l10 h, MAt.g11 h, MAt.n11 h, MAt.r11 h, MAt.l11 h, MAt.g12 h, MAt.n12 h, MAt.r12 h, MAt.l12 h, MAt.g13 h, MAt.n13 h, MAt.r13 h, MAt.l13 h, MAt.g14 h, MAt.n14 h, MAt.r14 h, MAt.l14 h, MAt.g16 h, MAt.n16 h, MAt.r16 h, MAt.l16 h, MAt.g17 h, MAt.n17 h, MAt.r17 h, MAt.l17 h, MAt.g19 h, MAt.n19 h, MAt.r19 h, MAt.l19 h, MAt.g20 h, MAt.n20 h, MAt.r20 h, MAt.l20 h, MAt.g25 h, MAt.n25 h, MAt.r25 h, MAt.l25 h, MAt.g26 h, MAt.n26 h, MAt.r26 h, MAt.l26 h, MAt.g27 h, MAt.n27 h, MAt.r27 h, MAt.l27 h, MAt.g28 h, MAt.n28 h, MAt.r28 h, MAt.l28 h, obs, b2s, lA, lB, lM, nI_add, pk_mul]
      simp only [fn_X10_bestMargin_171]
      have hv : c + A 28 i = P i := by
        rw [← hp i (by omega)]
        rcases hcc with ⟨rfl, rfl⟩ | ⟨j, rfl, rfl⟩
        · rw [preS, Int32.zero_add]
        · rw [preS, hp j (by omega)]
      clear hcc
      rw [hv, nI_1]
      by_cases c1 : P i < l
      · rw [if_pos c1]
        refine ih (i + 1) i (P i) (P i) (by omega) (by omega) (by omega) rfl (by omega) (fun q hq2 => ?_) (Or.inr ⟨i, rfl, rfl⟩) (by omega)
        by_cases e : q = i
        · subst e; exact Or.inr ⟨rfl, Nat.le_refl _⟩
        · left
          rcases hq q (by omega) with z | ⟨z1, z2⟩
          · apply Int32.lt_iff_toInt_lt.mpr
            have a := Int32.lt_iff_toInt_lt.mp c1
            have b := Int32.lt_iff_toInt_lt.mp z
            omega
          · rw [← z1]; exact c1
      · rw [if_neg c1]
        refine ih (i + 1) b l (P i) (by omega) (by omega) hb hl (by omega) (fun q hq2 => ?_) (Or.inr ⟨i, rfl, rfl⟩) (by omega)
        by_cases e : q = i
        · subst e
          by_cases z : l = P q
          · exact Or.inr ⟨z, hbi⟩
          · left
            apply Int32.lt_iff_toInt_lt.mpr
            have a : ¬ (P q).toInt < l.toInt := fun w => c1 (Int32.lt_iff_toInt_lt.mpr w)
            have b : ¬ l.toInt = (P q).toInt := fun w => z (Int32.toInt_inj.mp w)
            omega
        · exact hq q (by omega)
theorem va28 {S : Nat → Int32} : va_up A 28 S 28 = S := by simp [va_up]
theorem rf_bm31 (hN : 2 ^ 15 ≤ N) (w : WFK κ) (ws : WFS κ σ) : ∀ (m i : Nat) (M : Mem) (F : Nat → Int32) (C : Nat → Int32), MAt M F (va_up A 28 C) → RelK (A 10) (A 12) (A 13) (A 14) κ → RelS (A 16) σ → (∀ q, q ≤ 2000 → preS C q = pS (gpN κ σ) (rsN κ σ) q i) → i ≤ (σ.2 8).length → (σ.2 8).length - i < m → RW M (fn_X10_bestMargin_31 N m M 389 (nI i)) (fun r F' A' => (∃ b l, r = nI b ∧ BestOf (fun m => pS (gpN κ σ) (rsN κ σ) m (σ.2 8).length) b l) ∧ (∃ C', A' = va_up A 28 C') ∧ F' 0 = F 0 ∧ F' 2 = F 2 ∧ F' 18 = F 18) := by
  intro m
  induction m with
  | zero => intro i M F C _ _ _ _ _ h; omega
  | succ m ih =>
    intro i M F C h k s hp hi hm
    have hl := s.2.1.2.2.2.2.2.2.2.2.1
    have hl9 := s.2.1.2.2.2.2.2.2.2.2.2
    have k' : RelK (va_up A 28 C 10) (va_up A 28 C 12) (va_up A 28 C 13) (va_up A 28 C 14) κ := k
    have s' : RelS (va_up A 28 C 16) σ := s
    rw [fn_X10_bestMargin_31.eq_2]
    simp (disch := omega) only [MAt.ck h, MAt.i0 h, MAt.i2 h, MAt.i3 h, MAt.i4 h, MAt.i5 h, MAt.i6 h, MAt.i7 h, MAt.i8 h, MAt.i9 h, MAt.i15 h, MAt.i18 h, MAt.i21 h, MAt.i22 h, MAt.i23 h, MAt.i24 h, MAt.g1 h, MAt.n1 h, MAt.r1 h, MAt.l1 h, MAt.g10 h, MAt.n10 h, MAt.r10 h, MAt.l10 h, MAt.g11 h, MAt.n11 h, MAt.r11 h, MAt.l11 h, MAt.g12 h, MAt.n12 h, MAt.r12 h, MAt.l12 h, MAt.g13 h, MAt.n13 h, MAt.r13 h, MAt.l13 h, MAt.g14 h, MAt.n14 h, MAt.r14 h, MAt.l14 h, MAt.g16 h, MAt.n16 h, MAt.r16 h, MAt.l16 h, MAt.g17 h, MAt.n17 h, MAt.r17 h, MAt.l17 h, MAt.g19 h, MAt.n19 h, MAt.r19 h, MAt.l19 h, MAt.g20 h, MAt.n20 h, MAt.r20 h, MAt.l20 h, MAt.g25 h, MAt.n25 h, MAt.r25 h, MAt.l25 h, MAt.g26 h, MAt.n26 h, MAt.r26 h, MAt.l26 h, MAt.g27 h, MAt.n27 h, MAt.r27 h, MAt.l27 h, MAt.g28 h, MAt.n28 h, MAt.r28 h, MAt.l28 h, obs, b2s, lA, lB, lM, nI_add, pk_mul]
    rw [s'.1.2.2.2.2.2]
    by_cases he : i = (σ.2 8).length
    · subst he
      rw [if_pos (Int32.le_refl _)]
      have := rf_scan (N := N) (P := fun m => pS (gpN κ σ) (rsN κ σ) m (σ.2 8).length) h (by intro q hq; rw [va28]; exact hp q hq) N 0 0 0 0 (by omega) (by omega) (by omega) (pS_0 _).symm (by omega) (fun q hq => by omega) (Or.inl ⟨rfl, rfl⟩) (fun _ => pS_0 _)
      rw [nI_0] at this
      refine this.imp ?_
      rintro r F' A' ⟨b, l, q1, q2, rfl, rfl⟩
      exact ⟨⟨b, l, q1, q2⟩, ⟨C, rfl⟩, rfl, rfl, rfl⟩
    · rw [if_neg (nI_ge (by omega) (by omega))]
      simp (disch := omega) only [MAt.ck h, MAt.i0 h, MAt.i2 h, MAt.i3 h, MAt.i4 h, MAt.i5 h, MAt.i6 h, MAt.i7 h, MAt.i8 h, MAt.i9 h, MAt.i15 h, MAt.i18 h, MAt.i21 h, MAt.i22 h, MAt.i23 h, MAt.i24 h, MAt.g1 h, MAt.n1 h, MAt.r1 h, MAt.l1 h, MAt.g10 h, MAt.n10 h, MAt.r10 h, MAt.l10 h, MAt.g11 h, MAt.n11 h, MAt.r11 h, MAt.l11 h, MAt.g12 h, MAt.n12 h, MAt.r12 h, MAt.l12 h, MAt.g13 h, MAt.n13 h, MAt.r13 h, MAt.l13 h, MAt.g14 h, MAt.n14 h, MAt.r14 h, MAt.l14 h, MAt.g16 h, MAt.n16 h, MAt.r16 h, MAt.l16 h, MAt.g17 h, MAt.n17 h, MAt.r17 h, MAt.l17 h, MAt.g19 h, MAt.n19 h, MAt.r19 h, MAt.l19 h, MAt.g20 h, MAt.n20 h, MAt.r20 h, MAt.l20 h, MAt.g25 h, MAt.n25 h, MAt.r25 h, MAt.l25 h, MAt.g26 h, MAt.n26 h, MAt.r26 h, MAt.l26 h, MAt.g27 h, MAt.n27 h, MAt.r27 h, MAt.l27 h, MAt.g28 h, MAt.n28 h, MAt.r28 h, MAt.l28 h, obs, b2s, lA, lB, lM, nI_add, pk_mul]
      refine RW.call (rf_smV hN h k' s' w (i := i) (by omega) 0 ⟨0, by omega, by omega, rfl⟩) ?_
      rintro r M1 F1 A1 h1 ⟨rfl, rfl, q0, q2, q18, q21, q22, q23, -⟩
      have q22' : F1 22 = (exT κ (smD σ i) (smA σ i) (-2) (κ.2 0).length).2.1 := q22
      have q23' : F1 23 = (exT κ (smD σ i) (smA σ i) (-2) (κ.2 0).length).2.2 := q23
      obtain ⟨hd, ha⟩ := sm_co ws (show i < (σ.2 8).length by omega)
      obtain ⟨g, g1, g2, g3, g4, g5⟩ := gap_form w hd ha
      have hg : gpN κ σ i = g := by unfold gpN; rw [g2, nI_clamp (by omega)]
      have hlab : va_up A 28 C 16 (292 + 3 * i + 2) = (σ.2 9).getD i 0 := (s'.2.2.2.2.2.2.2.2 i (by omega)).2.2
      simp only [fn_X10_bestMargin_125, nI_1]
      have hsm : smV κ σ 0 i = vdI κ (smD σ i) (smA σ i) 0 := rfl
      have skip : g = 2000 → RW M1 (fn_X10_bestMargin_31 N m M1 389 (nI (i + 1))) (fun r F' A' => (∃ b l, r = nI b ∧ BestOf (fun m => pS (gpN κ σ) (rsN κ σ) m (σ.2 8).length) b l) ∧ (∃ C', A' = va_up A 28 C') ∧ F' 0 = F 0 ∧ F' 2 = F 2 ∧ F' 18 = F 18) := by
        intro e
        refine (ih (i + 1) M1 F1 C h1 k s (fun q hq => ?_) (by omega) (by omega)).imp ?_
        · rw [pS, hg, if_neg (by omega), Int32.add_zero]; exact hp q hq
        · rintro r F' A' ⟨z1, z2, z3, z4, z5⟩
          exact ⟨z1, z2, z3.trans q0, z4.trans q2, z5.trans q18⟩
      by_cases c1 : 20 ≤ smV κ σ 0 i
      · rw [if_pos c1]
        apply skip
        rcases g4 with z | ⟨z1, -⟩
        · exact z
        · rw [hsm] at c1; exact absurd z1 (Int32.not_lt.mpr c1)
      · rw [if_neg c1]
        simp (disch := omega) only [MAt.ck h1, MAt.i0 h1, MAt.i2 h1, MAt.i3 h1, MAt.i4 h1, MAt.i5 h1, MAt.i6 h1, MAt.i7 h1, MAt.i8 h1, MAt.i9 h1, MAt.i15 h1, MAt.i18 h1, MAt.i21 h1, MAt.i22 h1, MAt.i23 h1, MAt.i24 h1, MAt.g1 h1, MAt.n1 h1, MAt.r1 h1, MAt.l1 h1, MAt.g10 h1, MAt.n10 h1, MAt.r10 h1, MAt.l10 h1, MAt.g11 h1, MAt.n11 h1, MAt.r11 h1, MAt.l11 h1, MAt.g12 h1, MAt.n12 h1, MAt.r12 h1, MAt.l12 h1, MAt.g13 h1, MAt.n13 h1, MAt.r13 h1, MAt.l13 h1, MAt.g14 h1, MAt.n14 h1, MAt.r14 h1, MAt.l14 h1, MAt.g16 h1, MAt.n16 h1, MAt.r16 h1, MAt.l16 h1, MAt.g17 h1, MAt.n17 h1, MAt.r17 h1, MAt.l17 h1, MAt.g19 h1, MAt.n19 h1, MAt.r19 h1, MAt.l19 h1, MAt.g20 h1, MAt.n20 h1, MAt.r20 h1, MAt.l20 h1, MAt.g25 h1, MAt.n25 h1, MAt.r25 h1, MAt.l25 h1, MAt.g26 h1, MAt.n26 h1, MAt.r26 h1, MAt.l26 h1, MAt.g27 h1, MAt.n27 h1, MAt.r27 h1, MAt.l27 h1, MAt.g28 h1, MAt.n28 h1, MAt.r28 h1, MAt.l28 h1, obs, b2s, lA, lB, lM, nI_add, pk_mul]
        rw [q23', q22']
        by_cases c2 : (exT κ (smD σ i) (smA σ i) (-2) (κ.2 0).length).2.2 = 1000000
        · rw [if_pos c2]
          apply skip
          rcases g4 with z | ⟨-, z2, -⟩
          · exact z
          · exact absurd c2 z2
        · rw [if_neg c2]
          have hgap : (exT κ (smD σ i) (smA σ i) (-2) (κ.2 0).length).2.2 - (exT κ (smD σ i) (smA σ i) (-2) (κ.2 0).length).2.1 = nI g := by
            rcases g4 with z | ⟨-, -, z3⟩
            · rcases g5 z with y | y | y
              · rw [hsm] at c1; exact absurd (Int32.not_le.mp c1) y
              · exact absurd y c2
              · rw [z]; exact y
            · exact z3
          rw [hgap, nI_1]
          have hc3 := lLt (m := 2000) (n := g + 1) (by decide) (by omega)
          by_cases c3 : 2000 < g + 1
          · rw [if_pos (hc3.mpr c3)]
            exact skip (by omega)
          · rw [if_neg (fun z => c3 (hc3.mp z))]
            simp (disch := omega) only [MAt.ck h1, MAt.i0 h1, MAt.i2 h1, MAt.i3 h1, MAt.i4 h1, MAt.i5 h1, MAt.i6 h1, MAt.i7 h1, MAt.i8 h1, MAt.i9 h1, MAt.i15 h1, MAt.i18 h1, MAt.i21 h1, MAt.i22 h1, MAt.i23 h1, MAt.i24 h1, MAt.g1 h1, MAt.n1 h1, MAt.r1 h1, MAt.l1 h1, MAt.g10 h1, MAt.n10 h1, MAt.r10 h1, MAt.l10 h1, MAt.g11 h1, MAt.n11 h1, MAt.r11 h1, MAt.l11 h1, MAt.g12 h1, MAt.n12 h1, MAt.r12 h1, MAt.l12 h1, MAt.g13 h1, MAt.n13 h1, MAt.r13 h1, MAt.l13 h1, MAt.g14 h1, MAt.n14 h1, MAt.r14 h1, MAt.l14 h1, MAt.g16 h1, MAt.n16 h1, MAt.r16 h1, MAt.l16 h1, MAt.g17 h1, MAt.n17 h1, MAt.r17 h1, MAt.l17 h1, MAt.g19 h1, MAt.n19 h1, MAt.r19 h1, MAt.l19 h1, MAt.g20 h1, MAt.n20 h1, MAt.r20 h1, MAt.l20 h1, MAt.g25 h1, MAt.n25 h1, MAt.r25 h1, MAt.l25 h1, MAt.g26 h1, MAt.n26 h1, MAt.r26 h1, MAt.l26 h1, MAt.g27 h1, MAt.n27 h1, MAt.r27 h1, MAt.l27 h1, MAt.g28 h1, MAt.n28 h1, MAt.r28 h1, MAt.l28 h1, obs, b2s, lA, lB, lM, nI_add, pk_mul]
            rw [hlab, rf_costOf (ws.lab w (by omega)), b2s, rf_costOf (ws.lab w (by omega)), b2s]
            refine RW.w28 h1 (by omega) fun M2 h2 => ?_
            rw [bx_uu, va28] at h2
            refine (ih (i + 1) M2 F1 _ h2 k s (fun q hq => ?_) (by omega) (by omega)).imp ?_
            · rw [preS_upd, hp q hq, pS, hg]
              rfl
            · rintro r F' A' ⟨z1, z2, z3, z4, z5⟩
              exact ⟨z1, z2, z3.trans q0, z4.trans q2, z5.trans q18⟩
theorem rf_bm7 (hN : 2 ^ 15 ≤ N) (w : WFK κ) (ws : WFS κ σ) (k : RelK (A 10) (A 12) (A 13) (A 14) κ) (s : RelS (A 16) σ) : ∀ (m i : Nat) (M : Mem) (C : Nat → Int32), MAt M F (va_up A 28 C) → (∀ q, q < i → C q = 0) → i ≤ 2002 → 2002 - i < m → RW M (fn_X10_bestMargin_7 N m M 389 (nI i)) (fun r F' A' => (∃ b l, r = nI b ∧ BestOf (fun m => pS (gpN κ σ) (rsN κ σ) m (σ.2 8).length) b l) ∧ (∃ C', A' = va_up A 28 C') ∧ F' 0 = F 0 ∧ F' 2 = F 2 ∧ F' 18 = F 18) := by
  have hl := s.2.1.2.2.2.2.2.2.2.2.1
  intro m
  induction m with
  | zero => intro i M C _ _ _ h; omega
  | succ m ih =>
    intro i M C h hz hi hm
    rw [fn_X10_bestMargin_7.eq_2]
    simp (disch := omega) only [MAt.ck h, MAt.i0 h, MAt.i2 h, MAt.i3 h, MAt.i4 h, MAt.i5 h, MAt.i6 h, MAt.i7 h, MAt.i8 h, MAt.i9 h, MAt.i15 h, MAt.i18 h, MAt.i21 h, MAt.i22 h, MAt.i23 h, MAt.i24 h, MAt.g1 h, MAt.n1 h, MAt.r1 h, MAt.l1 h, MAt.g10 h, MAt.n10 h, MAt.r10 h, MAt.l10 h, MAt.g11 h, MAt.n11 h, MAt.r11 h, MAt.l11 h, MAt.g12 h, MAt.n12 h, MAt.r12 h, MAt.l12 h, MAt.g13 h, MAt.n13 h, MAt.r13 h, MAt.l13 h, MAt.g14 h, MAt.n14 h, MAt.r14 h, MAt.l14 h, MAt.g16 h, MAt.n16 h, MAt.r16 h, MAt.l16 h, MAt.g17 h, MAt.n17 h, MAt.r17 h, MAt.l17 h, MAt.g19 h, MAt.n19 h, MAt.r19 h, MAt.l19 h, MAt.g20 h, MAt.n20 h, MAt.r20 h, MAt.l20 h, MAt.g25 h, MAt.n25 h, MAt.r25 h, MAt.l25 h, MAt.g26 h, MAt.n26 h, MAt.r26 h, MAt.l26 h, MAt.g27 h, MAt.n27 h, MAt.r27 h, MAt.l27 h, MAt.g28 h, MAt.n28 h, MAt.r28 h, MAt.l28 h, obs, b2s, lA, lB, lM, nI_add, pk_mul]
    have hc := nI_leI (a := 2002) (b := i) (by omega) (by omega)
    by_cases he : 2002 ≤ i
    · rw [if_pos (hc.mpr he)]
      have := rf_bm31 (N := N) (A := A) hN w ws N 0 M F C h k s (fun q hq => preS_0 q (fun j hj => hz j (by omega))) (by omega) (by omega)
      rw [nI_0] at this
      exact this
    · rw [if_neg (fun q => he (hc.mp q))]
      refine RW.w28 h (by omega) fun M1 h1 => ?_
      rw [bx_uu, va28] at h1
      refine ih (i + 1) M1 _ h1 (fun q hq => ?_) (by omega) (by omega)
      by_cases e : q = i
      · subst e; exact pk_us
      · rw [pk_un e]; exact hz q (by omega)
theorem rf_bestMargin (hN : 2 ^ 15 ≤ N) {M : Mem} (h : MAt M F A) (k : Rel F A bf κ σ U sn) (w : WF κ σ U sn) : RW M (fn_X10_bestMargin N M 389) (fun r F' A' => (∃ b l, r = nI b ∧ BestOf (fun m => pS (gpN κ σ) (rsN κ σ) m (σ.2 8).length) b l) ∧ Qt F A F' A') := by
  unfold fn_X10_bestMargin
  refine RW.pF h fun M1 h1 => ?_
  have e : va_up A 28 (A 28) = A := by
    funext j
    unfold va_up
    split
    · rename_i e; rw [e]
    · rfl
  have := rf_bm7 (N := N) (F := upd F 0 0) (A := A) hN w.1 w.2.1 k.2.1 k.2.2.1 N 0 M1 (A 28) (by rw [e]; exact h1) (fun q hq => by omega) (by omega) (by omega)
  rw [nI_0] at this
  refine this.imp ?_
  rintro r F' A' ⟨q1, ⟨C, rfl⟩, q3, q4, q5⟩
  exact ⟨q1, q4, q5, rfl, rfl, rfl, rfl, rfl, rfl, rfl, rfl, rfl⟩
end RT
