/-! PURE: payouts in the class -/
def IsM (R : Nat → Nat → Prop) (o : Option Nat) (a : Nat) : Prop := match o with
  | none => ∀ x, ¬ R a x
  | some x => R a x ∧ ∀ y, R a y → x ≤ y
def Rc (R : Nat → Nat → Prop) (v w c : Nat) (a x : Nat) : Prop := ∃ k a' x', k ≤ c ∧ R a' x' ∧ a = a' + k * v ∧ x = x' + k * w
def AtW (s v w : Nat → Nat) (k a x : Nat) : Prop := ∃ n : Nat → Nat, (∀ u, u < k → n u ≤ s u) ∧ S0 (fun u => n u * v u) k = a ∧ S0 (fun u => n u * w u) k = x
theorem S0_congr {f g : Nat → Nat} : ∀ k, (∀ u, u < k → f u = g u) → S0 f k = S0 g k := by
  intro k
  induction k with
  | zero => intro _; rfl
  | succ k ih => intro h; rw [S0, S0, ih (fun u hu => h u (by omega)), h k (by omega)]
theorem At_succ {s v w : Nat → Nat} {k a x : Nat} : AtW s v w (k + 1) a x ↔ Rc (AtW s v w k) (v k) (w k) (s k) a x := by
  constructor
  · rintro ⟨n, h1, h2, h3⟩
    rw [S0] at h2 h3
    exact ⟨n k, _, _, h1 k (by omega), ⟨n, fun u hu => h1 u (by omega), rfl, rfl⟩, h2.symm, h3.symm⟩
  · rintro ⟨q, a', x', hq, ⟨n, h1, h2, h3⟩, rfl, rfl⟩
    have e : ∀ u, u < k → va_up n k q u = n u := fun u hu => by simp [va_up]; omega
    have e0 : va_up n k q k = q := by simp [va_up]
    refine ⟨va_up n k q, fun u hu => ?_, ?_, ?_⟩
    · by_cases he : u = k
      · subst he; rw [e0]; exact hq
      · rw [e u (by omega)]; exact h1 u (by omega)
    · rw [S0, e0, S0_congr k (fun u hu => by rw [e u hu]), h2]
    · rw [S0, e0, S0_congr k (fun u hu => by rw [e u hu]), h3]
theorem Rc_0 {R : Nat → Nat → Prop} {v w a x : Nat} : Rc R v w 0 a x ↔ R a x := by
  constructor
  · rintro ⟨k, a', x', hk, h, rfl, rfl⟩
    have : k = 0 := by omega
    subst this
    simpa using h
  · intro h
    exact ⟨0, a, x, by omega, h, by omega, by omega⟩
theorem Rc_p {R : Nat → Nat → Prop} {v w c p : Nat} (hp : p ≤ c + 1) {a x : Nat} : Rc R v w (c + p) a x ↔ (Rc R v w c a x ∨ ∃ a' x', Rc R v w c a' x' ∧ a = a' + p * v ∧ x = x' + p * w) := by
  constructor
  · rintro ⟨k, a', x', hk, h, rfl, rfl⟩
    by_cases hc : k ≤ c
    · exact Or.inl ⟨k, a', x', hc, h, rfl, rfl⟩
    · right
      refine ⟨a' + (k - p) * v, x' + (k - p) * w, ⟨k - p, a', x', by omega, h, rfl, rfl⟩, ?_, ?_⟩
      · rw [Nat.add_assoc, ← Nat.add_mul, Nat.sub_add_cancel (by omega)]
      · rw [Nat.add_assoc, ← Nat.add_mul, Nat.sub_add_cancel (by omega)]
  · rintro (⟨k, a', x', hk, h, rfl, rfl⟩ | ⟨b, y, ⟨k, a', x', hk, h, rfl, rfl⟩, rfl, rfl⟩)
    · exact ⟨k, a', x', by omega, h, rfl, rfl⟩
    · exact ⟨k + p, a', x', by omega, h, by rw [Nat.add_mul]; omega, by rw [Nat.add_mul]; omega⟩
def encL : Option Nat → Int64
  | none => -1
  | some x => lN x
/-- the table of the least weights -/
def DPs (R : Nat → Nat → Prop) (wt : Nat → Int64) (am : Nat) : Prop := ∀ a, a ≤ am → ∃ o, IsM R o a ∧ wt a = encL o
def cmb (y o b : Int64) : Int64 := if b = -1 then o else if o = -1 then b + y else if b + y < o then b + y else o
theorem lN_ne {x : Nat} (h : x < 2 ^ 63) : ¬ lN x = -1 := by
  intro q
  have h1 := congrArg Int64.toInt q
  rw [pk_lT h, show (-1 : Int64).toInt = -1 from rfl] at h1
  omega
theorem dp_packet {R : Nat → Nat → Prop} {v w c p am rc BX : Nat} {wt wt' : Nat → Int64} (hB : BX < 2 ^ 63) (hp : p ≤ c + 1) (hbd : ∀ a x, Rc R v w (c + p) a x → x ≤ BX) (hrc : ∀ a x, a ≤ am → Rc R v w (c + p) a x → a ≤ rc) (h : DPs (Rc R v w c) wt am) (hw : ∀ a, wt' a = if p * v ≤ a ∧ a ≤ rc ∧ 0 < p * v then cmb (lN (p * w)) (wt a) (wt (a - p * v)) else wt a) (hv : 0 < v) : DPs (Rc R v w (c + p)) wt' am := by
  intro a ha
  obtain ⟨o, o1, o2⟩ := h a ha
  rw [hw a]
  by_cases hp0 : p = 0
  · subst hp0
    rw [if_neg (by omega)]
    exact ⟨o, by simpa using o1, o2⟩
  · have hpv : 0 < p * v := Nat.mul_pos (by omega) hv
    have old : ∀ x, Rc R v w c a x → Rc R v w (c + p) a x := fun x hx => (Rc_p hp).mpr (Or.inl hx)
    by_cases hc : p * v ≤ a ∧ a ≤ rc ∧ 0 < p * v
    · rw [if_pos hc]
      obtain ⟨b, b1, b2⟩ := h (a - p * v) (by omega)
      have new : ∀ x, Rc R v w c (a - p * v) x → Rc R v w (c + p) a (x + p * w) := fun x hx => (Rc_p hp).mpr (Or.inr ⟨a - p * v, x, hx, by omega, rfl⟩)
      have inv : ∀ x, Rc R v w (c + p) a x → Rc R v w c a x ∨ ∃ y, Rc R v w c (a - p * v) y ∧ x = y + p * w := by
        intro x hx
        rcases (Rc_p hp).mp hx with q | ⟨a', x', q1, q2, q3⟩
        · exact Or.inl q
        · refine Or.inr ⟨x', ?_, q3⟩
          rw [show a - p * v = a' by omega]
          exact q1
      unfold cmb
      rw [b2, o2]
      cases b with
      | none =>
        rw [if_pos (show encL none = -1 from rfl)]
        refine ⟨o, ?_, rfl⟩
        cases o with
        | none =>
          intro x hx
          rcases inv x hx with q | ⟨y, q, -⟩
          · exact o1 x q
          · exact b1 y q
        | some x =>
          refine ⟨old x o1.1, fun y hy => ?_⟩
          rcases inv y hy with q | ⟨z, q, -⟩
          · exact o1.2 y q
          · exact absurd q (b1 z)
      | some x =>
        have hx1 := hbd _ _ (new x b1.1)
        have e1 : encL (some x) + lN (p * w) = lN (x + p * w) := by
          show lN x + lN (p * w) = lN (x + p * w)
          exact (lN_add x (p * w))
        rw [if_neg (show ¬ encL (some x) = -1 from lN_ne (by omega)), e1]
        cases o with
        | none =>
          rw [if_pos (show encL none = -1 from rfl)]
          refine ⟨some (x + p * w), ⟨new x b1.1, fun y hy => ?_⟩, rfl⟩
          rcases inv y hy with q | ⟨z, q, rfl⟩
          · exact absurd q (o1 y)
          · have := b1.2 z q; omega
        | some y =>
          have hy1 := hbd _ _ (old y o1.1)
          rw [if_neg (show ¬ encL (some y) = -1 from lN_ne (by omega))]
          have hc2 := pk_lLT (a := x + p * w) (b := y) (by omega) (by omega)
          by_cases c2 : x + p * w < y
          · rw [if_pos (show lN (x + p * w) < encL (some y) from hc2.mpr c2)]
            refine ⟨some (x + p * w), ⟨new x b1.1, fun z hz => ?_⟩, rfl⟩
            rcases inv z hz with q | ⟨z', q, rfl⟩
            · have := o1.2 z q; omega
            · have := b1.2 z' q; omega
          · rw [if_neg (show ¬ lN (x + p * w) < encL (some y) from fun q => c2 (hc2.mp q))]
            refine ⟨some y, ⟨old y o1.1, fun z hz => ?_⟩, rfl⟩
            rcases inv z hz with q | ⟨z', q, rfl⟩
            · exact o1.2 z q
            · have := b1.2 z' q; omega
    · rw [if_neg hc]
      refine ⟨o, ?_, o2⟩
      have inv : ∀ x, Rc R v w (c + p) a x → Rc R v w c a x := by
        intro x hx
        have hle := hrc a x ha hx
        rcases (Rc_p hp).mp hx with q | ⟨a', x', q1, q2, q3⟩
        · exact q
        · exact absurd ⟨by omega, hle, hpv⟩ hc
      cases o with
      | none => exact fun x hx => o1 x (inv x hx)
      | some x => exact ⟨old x o1.1, fun y hy => o1.2 y (inv y hy)⟩
def PyAt (M : Mem) (st : Nat → Int32) (pl wt : Nat → Int64) (wh : Int64) (lc : List Int32) : Prop := M[378]? = some (.inr (5, [.ref 379, .ref 380, .ref 381, .long wh, .ref 382])) ∧ M[379]? = some (.inl (0, 8, .inl st)) ∧ M[380]? = some (.inl (1, 8, .inr (.inl pl))) ∧ M[381]? = some (.inl (1, 5001, .inr (.inl wt))) ∧ RowAt M 382 8 lc
section XY
variable {N : Nat} {M : Mem} {st : Nat → Int32} {pl wt : Nat → Int64} {wh : Int64} {lc : List Int32}
theorem py_wt (h : PyAt M st pl wt wh lc) (wt' : Nat → Int64) : PyAt (M.set 381 (.inl (1, 5001, .inr (.inl wt')))) st pl wt' wh lc ∧ Fr M (M.set 381 (.inl (1, 5001, .inr (.inl wt')))) 378 384 := by
  obtain ⟨h1, h2, h3, h4, h5⟩ := h
  have hf : Fr M (M.set 381 (.inl (1, 5001, .inr (.inl wt')))) 381 382 := Fr.set (by omega) (by omega)
  exact ⟨⟨by rw [hf.2 378 (by omega)]; exact h1, by rw [hf.2 379 (by omega)]; exact h2, by rw [hf.2 380 (by omega)]; exact h3, st_self h4, h5.keep hf (by omega)⟩, hf.mono (by omega) (by omega)⟩
theorem lg_eq (x y : Int64) : (lg_cmp x y = 0) ↔ x = y := lg_cmp_eq x y
theorem wp_loop {pv : Nat} {y : Int64} (hpv : 0 < pv) (hpv2 : pv < 2 ^ 30) : ∀ (m q : Nat) (M : Mem) (wt : Nat → Int64), PyAt M st pl wt wh lc → q ≤ 5000 → q + 1 - pv < m → ∃ M' wt', fn_X5_weighPacket_10 N m M 378 (nI pv) y (nI q) = some ((), M') ∧ PyAt M' st pl wt' wh lc ∧ Fr M M' 378 384 ∧ ∀ a, wt' a = if pv ≤ a ∧ a ≤ q then cmb y (wt a) (wt (a - pv)) else wt a := by
  intro m
  induction m with
  | zero => intro q M wt _ _ h; omega
  | succ m ih =>
    intro q M wt h hq hm
    rw [fn_X5_weighPacket_10.eq_2]
    have hc := nI_ltI (a := q) (b := pv) (by omega) (by omega)
    by_cases c1 : q < pv
    · rw [if_pos (hc.mpr c1)]
      exact ⟨M, wt, rfl, h, Fr.rf, fun a => by rw [if_neg (by omega)]⟩
    · rw [if_neg (fun z => c1 (hc.mp z)), if_neg (nI_nle hpv (by omega))]
      obtain ⟨h1, h2, h3, h4, h5⟩ := h
      rw [ev_gR h1 rfl, obs, pk_sub (by omega), ev_aL h4 (by omega) (by omega)]
      simp only [obs, ev_aL h4 (show q < 5001 by omega) (show 5001 < 2 ^ 31 by omega)]
      simp only [fn_X5_weighPacket_80, fn_X5_weighPacket_69, lg_cmp_eq, lg_cmp_ge]
      rw [ev_gR h1 rfl, obs, ev_sL h4 (by omega) (by omega), obs, show (-1 : Int32) = -1 from rfl, sb_m1 (by omega)]
      have hsame : cmb y (wt q) (wt (q - pv)) = wt q → ∃ M' wt', fn_X5_weighPacket_10 N m M 378 (nI pv) y (nI (q - 1)) = some ((), M') ∧ PyAt M' st pl wt' wh lc ∧ Fr M M' 378 384 ∧ ∀ a, wt' a = if pv ≤ a ∧ a ≤ q then cmb y (wt a) (wt (a - pv)) else wt a := by
        intro e
        obtain ⟨M', wt', z1, z2, z3, z4⟩ := ih (q - 1) M wt ⟨h1, h2, h3, h4, h5⟩ (by omega) (by omega)
        refine ⟨M', wt', z1, z2, z3, fun a => ?_⟩
        rw [z4 a]
        by_cases ea : a = q
        · subst ea
          rw [if_neg (by omega), if_pos (by omega), e]
        · by_cases eb : pv ≤ a ∧ a ≤ q
          · rw [if_pos (by omega), if_pos eb]
          · rw [if_neg (by omega), if_neg eb]
      have hset : cmb y (wt q) (wt (q - pv)) = wt (q - pv) + y → ∃ M' wt', fn_X5_weighPacket_10 N m (M.set 381 (.inl (1, 5001, .inr (.inl (vp_updL wt q (wt (q - pv) + y)))))) 378 (nI pv) y (nI (q - 1)) = some ((), M') ∧ PyAt M' st pl wt' wh lc ∧ Fr M M' 378 384 ∧ ∀ a, wt' a = if pv ≤ a ∧ a ≤ q then cmb y (wt a) (wt (a - pv)) else wt a := by
        intro e
        obtain ⟨p1, p2⟩ := py_wt (M := M) ⟨h1, h2, h3, h4, h5⟩ (vp_updL wt q (wt (q - pv) + y))
        obtain ⟨M', wt', z1, z2, z3, z4⟩ := ih (q - 1) _ _ p1 (by omega) (by omega)
        refine ⟨M', wt', z1, z2, p2.tr z3, fun a => ?_⟩
        rw [z4 a]
        by_cases ea : a = q
        · subst ea
          rw [if_neg (by omega), if_pos (by omega), e, pk_uLs]
        · by_cases eb : pv ≤ a ∧ a ≤ q
          · rw [if_pos (by omega), if_pos eb, pk_uLn ea, pk_uLn (by omega)]
          · rw [if_neg (by omega), if_neg eb, pk_uLn ea]
      by_cases d1 : wt (q - pv) = -1
      · rw [if_pos d1]
        exact hsame (by unfold cmb; rw [if_pos d1])
      · rw [if_neg d1]
        by_cases d2 : wt q = -1
        · rw [if_pos d2]
          exact hset (by unfold cmb; rw [if_neg d1, if_pos d2])
        · rw [if_neg d2]
          by_cases d3 : wt (q - pv) + y < wt q
          · rw [if_neg (Int64.not_le.mpr d3)]
            exact hset (by unfold cmb; rw [if_neg d1, if_neg d2, if_pos d3])
          · rw [if_pos (Int64.not_lt.mp d3)]
            exact hsame (by unfold cmb; rw [if_neg d1, if_neg d2, if_neg d3])
theorem wp_all {pv rc : Nat} {y : Int64} (hN : 2 ^ 15 ≤ N) (hpv2 : pv < 2 ^ 30) (hr : rc ≤ 5000) (h : PyAt M st pl wt wh lc) : ∃ M' wt', fn_X5_weighPacket N M 378 (nI pv) y (nI rc) = some ((), M') ∧ PyAt M' st pl wt' wh lc ∧ Fr M M' 378 384 ∧ ∀ a, wt' a = if pv ≤ a ∧ a ≤ rc ∧ 0 < pv then cmb y (wt a) (wt (a - pv)) else wt a := by
  unfold fn_X5_weighPacket mm_lt
  rw [if_neg (show ¬ (5000 : Int32) < nI rc from nI_nlt (a := 5000) (b := rc) hr (by omega))]
  dsimp only
  by_cases h0 : 0 < pv
  · obtain ⟨M', wt', z1, z2, z3, z4⟩ := wp_loop (N := N) (y := y) h0 hpv2 N rc M wt h hr (by omega)
    refine ⟨M', wt', z1, z2, z3, fun a => ?_⟩
    rw [z4 a]
    by_cases e : pv ≤ a ∧ a ≤ rc
    · rw [if_pos e, if_pos ⟨e.1, e.2, h0⟩]
    · rw [if_neg e, if_neg (fun q => e ⟨q.1, q.2.1⟩)]
  · have e0 : pv = 0 := by omega
    subst e0
    obtain ⟨K, hK⟩ : ∃ K, N = K + 1 := ⟨N - 1, by omega⟩
    have hgo : fn_X5_weighPacket_10 N N M 378 (nI 0) y (nI rc) = fn_X5_weighPacket_10 N (K + 1) M 378 (nI 0) y (nI rc) := by rw [← hK]
    rw [hgo, fn_X5_weighPacket_10.eq_2, if_neg (nI_nlt (by omega) (by omega)), if_pos (show nI 0 ≤ 0 from Int32.le_refl _)]
    exact ⟨M, wt, rfl, h, Fr.rf, fun a => by rw [if_neg (by omega)]⟩
theorem wt_sh : ∀ j : Nat, j < 10 → (1 : Int32) <<< (nI j &&& 31) = nI (2 ^ j) := by decide +kernel
theorem wt_loop {R : Nat → Nat → Prop} {v w s am rc BX : Nat} (hN : 2 ^ 15 ≤ N) (hB : BX < 2 ^ 63) (hv : 0 < v) (hv2 : v ≤ 500) (hs : s ≤ 800) (hr : rc ≤ am) (ham : am ≤ 5000) (hbd : ∀ a x, Rc R v w s a x → x ≤ BX) (hrc : ∀ a x, a ≤ am → Rc R v w s a x → a ≤ rc) : ∀ (m j c : Nat) (M : Mem) (wt : Nat → Int64), PyAt M st pl wt wh lc → j ≤ 10 → c = min (2 ^ j - 1) s → DPs (Rc R v w c) wt am → 10 - j < m → ∃ M' wt', fn_X5_weighType_6 N m M 378 (nI v) (lN w) (nI rc) (nI (s - c)) (nI j) = some ((), M') ∧ PyAt M' st pl wt' wh lc ∧ Fr M M' 378 384 ∧ DPs (Rc R v w s) wt' am := by
  have mono : ∀ c, c ≤ s → ∀ a x, Rc R v w c a x → Rc R v w s a x := fun c hc a x ⟨k, a', x', k1, k2, k3, k4⟩ => ⟨k, a', x', by omega, k2, k3, k4⟩
  intro m
  induction m with
  | zero => intro j c M wt _ _ _ _ h; omega
  | succ m ih =>
    intro j c M wt h hj hc hd hm
    rw [fn_X5_weighType_6.eq_2]
    have mul32 : ∀ p, p ≤ 801 → p * v < 2 ^ 30 := fun p hp => by
      have := Nat.mul_le_mul hp hv2
      omega
    by_cases c1 : j = 10
    · subst c1
      rw [if_pos (show (10 : Int32) ≤ nI 10 from Int32.le_refl _)]
      have hc' : c = min 1023 s := hc
      have e : c = s := by omega
      rw [e] at hd
      exact ⟨M, wt, rfl, h, Fr.rf, hd⟩
    · have hj2 : j < 10 := by omega
      rw [if_neg (show ¬ (10 : Int32) ≤ nI j from nI_ge (b := 10) (by omega) (by omega)), wt_sh j hj2]
      have q1 : 2 ^ j ≤ 512 := Nat.pow_le_pow_right (n := 2) (by omega) (show j ≤ 9 by omega)
      have q0 : 0 < 2 ^ j := Nat.pow_pos (by omega)
      have q2 : 2 ^ (j + 1) = 2 ^ j * 2 := Nat.pow_succ 2 j
      generalize hP : 2 ^ j = P at q0 q1 q2 hc ⊢
      have hmin : (if nI (s - c) < nI P then nI (s - c) else nI P) = nI (min P (s - c)) := by
        have hcc := nI_ltI (a := s - c) (b := P) (by omega) (by omega)
        by_cases c2 : s - c < P
        · rw [if_pos (hcc.mpr c2)]; congr 1; omega
        · rw [if_neg (fun q => c2 (hcc.mp q))]; congr 1; omega
      unfold mm_lt
      rw [hmin]
      dsimp only
      have p1 : min P (s - c) ≤ s - c := Nat.min_le_right _ _
      have p2 : min P (s - c) ≤ c + 1 := by omega
      have p3 : c + min P (s - c) = min (P * 2 - 1) s := by omega
      generalize hp : min P (s - c) = p at p1 p2 p3 ⊢
      rw [ev_ck h.1, obs, pk_mul, nI_l (by omega), lN_mul]
      obtain ⟨M', wt', z1, z2, z3, z4⟩ := wp_all (N := N) (pv := p * v) (rc := rc) (y := lN (p * w)) hN (mul32 _ (by omega)) (by omega) h
      rw [z1, b2s, pk_sub p1, nI_1]
      have hd' := dp_packet (R := R) (v := v) (w := w) (c := c) (p := p) (am := am) (rc := rc) (wt := wt) (wt' := wt') hB p2 (fun a x q => hbd a x (mono _ (by omega) a x q)) (fun a x ha q => hrc a x ha (mono _ (by omega) a x q)) hd z4 hv
      obtain ⟨M2, wt2, y1, y2, y3, y4⟩ := ih (j + 1) (c + p) M' wt' z2 (by omega) (by rw [q2]; exact p3) hd' (by omega)
      rw [show s - c - p = s - (c + p) by omega]
      exact ⟨M2, wt2, y1, y2, z3.tr y3, y4⟩
end XY
