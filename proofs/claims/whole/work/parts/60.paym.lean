/-! PURE: payouts in numbers alone -/
def S0 (f : Nat → Nat) : Nat → Nat
  | 0 => 0
  | k + 1 => S0 f k + f k
def SR (f : Nat → Nat) (t : Nat) : Nat → Nat
  | 0 => 0
  | r + 1 => f t + SR f (t + 1) r
theorem SR_end (f : Nat → Nat) : ∀ r t, SR f t (r + 1) = SR f t r + f (t + r) := by
  intro r
  induction r with
  | zero => intro t; rw [SR, SR, SR]; simp
  | succ r ih => intro t; rw [SR, ih (t + 1), SR, show t + 1 + r = t + (r + 1) by omega]; omega
theorem S0_SR (f : Nat → Nat) : ∀ k, S0 f k = SR f 0 k := by
  intro k
  induction k with
  | zero => rfl
  | succ k ih => rw [S0, ih, SR_end, Nat.zero_add]
theorem SR_congr {f g : Nat → Nat} : ∀ r t, (∀ u, t ≤ u → u < t + r → f u = g u) → SR f t r = SR g t r := by
  intro r
  induction r with
  | zero => intro t _; rfl
  | succ r ih => intro t h; rw [SR, SR, h t (by omega) (by omega), ih (t + 1) (fun u h1 h2 => h u (by omega) (by omega))]
theorem SR_split (f : Nat → Nat) : ∀ a t b, SR f t (a + b) = SR f t a + SR f (t + a) b := by
  intro a
  induction a with
  | zero => intro t b; rw [SR]; simp
  | succ a ih => intro t b; rw [show a + 1 + b = (a + b) + 1 by omega, SR, SR, ih, show t + 1 + a = t + (a + 1) by omega]; omega
theorem SR_zero {f : Nat → Nat} : ∀ r t, (∀ u, t ≤ u → u < t + r → f u = 0) → SR f t r = 0 := by
  intro r
  induction r with
  | zero => intro t _; rfl
  | succ r ih => intro t h; rw [SR, h t (by omega) (by omega), ih (t + 1) (fun u h1 h2 => h u (by omega) (by omega))]
theorem SR_le {f g : Nat → Nat} : ∀ r t, (∀ u, t ≤ u → u < t + r → f u ≤ g u) → SR f t r ≤ SR g t r := by
  intro r
  induction r with
  | zero => intro t _; exact Nat.le_refl _
  | succ r ih => intro t h; rw [SR, SR]; exact Nat.add_le_add (h t (by omega) (by omega)) (ih (t + 1) (fun u h1 h2 => h u (by omega) (by omega)))
/-- the product of the radices from t on -/
def PL (s : Nat → Nat) (t : Nat) : Nat → Nat
  | 0 => 1
  | r + 1 => (s t + 1) * PL s (t + 1) r
def PQ (s : Nat → Nat) (u : Nat) : Nat := PL s (u + 1) (7 - u)
theorem PL_pos (s : Nat → Nat) : ∀ r t, 0 < PL s t r := by
  intro r
  induction r with
  | zero => intro t; exact Nat.one_pos
  | succ r ih => intro t; rw [PL]; exact Nat.mul_pos (by omega) (ih _)
theorem PL_up {s s' : Nat → Nat} {j c : Nat} (h : ∀ u, u ≠ j → s' u = s u) (hj : s' j = s j + c) : ∀ r t, PL s' t r ≤ (c + 1) * PL s t r ∧ ((j < t ∨ t + r ≤ j) → PL s' t r = PL s t r) := by
  intro r
  induction r with
  | zero => intro t; rw [PL, PL]; exact ⟨by omega, fun _ => rfl⟩
  | succ r ih =>
    intro t
    obtain ⟨i1, i2⟩ := ih (t + 1)
    rw [PL, PL]
    constructor
    · by_cases e : t = j
      · subst e
        rw [i2 (Or.inl (by omega)), hj]
        have : s t + c + 1 ≤ (c + 1) * (s t + 1) := by
          have := Nat.zero_le (c * s t)
          rw [Nat.add_mul, Nat.mul_add]
          omega
        calc (s t + c + 1) * PL s (t + 1) r ≤ ((c + 1) * (s t + 1)) * PL s (t + 1) r := Nat.mul_le_mul_right _ this
          _ = (c + 1) * ((s t + 1) * PL s (t + 1) r) := by rw [Nat.mul_assoc]
      · rw [h t e]
        calc (s t + 1) * PL s' (t + 1) r ≤ (s t + 1) * ((c + 1) * PL s (t + 1) r) := Nat.mul_le_mul_left _ i1
          _ = (c + 1) * ((s t + 1) * PL s (t + 1) r) := by rw [← Nat.mul_assoc, Nat.mul_comm (s t + 1), Nat.mul_assoc]
    · intro hd
      rw [h t (by omega), i2 (by omega)]
/-- the number that digits n stand for -/
def DG (s n : Nat → Nat) (t r : Nat) : Nat := match r with
  | 0 => 0
  | r + 1 => n t * PL s (t + 1) r + DG s n (t + 1) r
theorem DG_lt {s n : Nat → Nat} : ∀ r t, (∀ u, t ≤ u → u < t + r → n u ≤ s u) → DG s n t r < PL s t r := by
  intro r
  induction r with
  | zero => intro t _; rw [DG, PL]; omega
  | succ r ih =>
    intro t h
    have h1 := ih (t + 1) (fun u h1 h2 => h u (by omega) (by omega))
    have h2 := h t (by omega) (by omega)
    rw [DG, PL]
    calc n t * PL s (t + 1) r + DG s n (t + 1) r < n t * PL s (t + 1) r + PL s (t + 1) r := by omega
      _ = (n t + 1) * PL s (t + 1) r := by rw [Nat.add_mul, Nat.one_mul]
      _ ≤ (s t + 1) * PL s (t + 1) r := Nat.mul_le_mul_right _ (by omega)
theorem DG_SR {s n : Nat → Nat} : ∀ r t, t + r = 8 → DG s n t r = SR (fun u => n u * PQ s u) t r := by
  intro r
  induction r with
  | zero => intro t _; rfl
  | succ r ih =>
    intro t h
    rw [DG, SR, ih (t + 1) (by omega)]
    unfold PQ
    rw [show 7 - t = r by omega]
/-- the digit and the rest -/
theorem DG_digit {s n : Nat → Nat} {r t : Nat} (h : ∀ u, t ≤ u → u < t + (r + 1) → n u ≤ s u) : DG s n t (r + 1) / PL s (t + 1) r = n t ∧ DG s n t (r + 1) % PL s (t + 1) r = DG s n (t + 1) r := by
  have h1 := DG_lt r (t + 1) (fun u h1 h2 => h u (by omega) (by omega))
  have hp := PL_pos s r (t + 1)
  rw [DG]
  constructor
  · rw [Nat.mul_comm, Nat.mul_add_div hp, Nat.div_eq_of_lt h1, Nat.add_zero]
  · rw [Nat.mul_comm, Nat.mul_add_mod, Nat.mod_eq_of_lt h1]
/-- a payout: within the stock, of this amount -/
def PayV (s v n : Nat → Nat) (t r a : Nat) : Prop := (∀ u, t ≤ u → u < t + r → n u ≤ s u) ∧ SR (fun u => n u * v u) t r = a
/-- the fewest coins for a with the types t .. t + r - 1 -/
def FewC (s v : Nat → Nat) (t r a : Nat) (c : Option Nat) : Prop := match c with
  | none => ∀ n, ¬ PayV s v n t r a
  | some c => (∃ n, PayV s v n t r a ∧ SR n t r = c) ∧ ∀ n, PayV s v n t r a → c ≤ SR n t r
theorem FewC.uniq {s v : Nat → Nat} {t r a : Nat} {c c' : Option Nat} (h : FewC s v t r a c) (h' : FewC s v t r a c') : c = c' := by
  cases c with
  | none =>
    cases c' with
    | none => rfl
    | some c' => obtain ⟨⟨n, n1, -⟩, -⟩ := h'; exact absurd n1 (h n)
  | some c =>
    obtain ⟨⟨n, n1, n2⟩, n3⟩ := h
    cases c' with
    | none => exact absurd n1 (h' n)
    | some c' =>
      obtain ⟨⟨m, m1, m2⟩, m3⟩ := h'
      have := n3 m m1
      have := m3 n n1
      congr 1
      omega
theorem FewC.nil {s v : Nat → Nat} {t a : Nat} : FewC s v t 0 a (if a = 0 then some 0 else none) := by
  by_cases h : a = 0
  · rw [if_pos h]
    exact ⟨⟨fun _ => 0, ⟨fun u h1 h2 => by omega, by rw [h]; rfl⟩, rfl⟩, fun n _ => Nat.zero_le _⟩
  · rw [if_neg h]
    intro n hn
    exact h hn.2.symm
theorem pay_cons {s v n : Nat → Nat} {t r a : Nat} (h : PayV s v n t (r + 1) a) : n t ≤ s t ∧ n t * v t ≤ a ∧ PayV s v n (t + 1) r (a - n t * v t) := by
  obtain ⟨h1, h2⟩ := h
  rw [SR] at h2
  refine ⟨h1 t (by omega) (by omega), by omega, fun u h3 h4 => h1 u (by omega) (by omega), by omega⟩
theorem pay_mk {s v n : Nat → Nat} {t r a k : Nat} (hk : k ≤ s t) (hv : k * v t ≤ a) (h : PayV s v n (t + 1) r (a - k * v t)) : PayV s v (va_up n t k) t (r + 1) a ∧ SR (va_up n t k) t (r + 1) = k + SR n (t + 1) r := by
  have e : ∀ u, t + 1 ≤ u → va_up n t k u = n u := fun u hu => by simp [va_up]; omega
  have e0 : va_up n t k t = k := by simp [va_up]
  refine ⟨⟨fun u h1 h2 => ?_, ?_⟩, ?_⟩
  · by_cases he : u = t
    · subst he; rw [e0]; exact hk
    · rw [e u (by omega)]; exact h.1 u (by omega) (by omega)
  · rw [SR, e0, SR_congr r (t + 1) (fun u h1 h2 => by rw [e u h1])]
    have := h.2
    omega
  · rw [SR, e0, SR_congr r (t + 1) (fun u h1 h2 => e u h1)]
/-- the greedy payout: at each type as many coins as the fewest allow -/
def GrV (s v n : Nat → Nat) : Nat → Nat → Nat → Prop
  | _, 0, a => a = 0
  | t, r + 1, a => n t ≤ s t ∧ n t * v t ≤ a ∧ (∃ c', FewC s v (t + 1) r (a - n t * v t) (some c') ∧ FewC s v t (r + 1) a (some (n t + c'))) ∧ (∀ m c', n t < m → m ≤ s t → m * v t ≤ a → FewC s v (t + 1) r (a - m * v t) (some c') → ¬ FewC s v t (r + 1) a (some (m + c'))) ∧ GrV s v n (t + 1) r (a - n t * v t)
theorem GrV.pay {s v n : Nat → Nat} : ∀ r t a, GrV s v n t r a → PayV s v n t r a ∧ FewC s v t r a (some (SR n t r)) := by
  intro r
  induction r with
  | zero =>
    intro t a h
    have h0 : a = 0 := h
    subst h0
    exact ⟨⟨fun u h1 h2 => by omega, rfl⟩, ⟨⟨n, ⟨fun u h1 h2 => by omega, rfl⟩, rfl⟩, fun m _ => Nat.zero_le _⟩⟩
  | succ r ih =>
    intro t a h
    obtain ⟨h1, h2, ⟨c', c1, c2⟩, h4, h5⟩ := h
    obtain ⟨i1, i2⟩ := ih (t + 1) _ h5
    have e : c' = SR n (t + 1) r := by have := c1.uniq i2; injection this
    subst e
    refine ⟨⟨fun u q1 q2 => ?_, ?_⟩, c2⟩
    · by_cases he : u = t
      · subst he; exact h1
      · exact i1.1 u (by omega) (by omega)
    · rw [SR]
      have := i1.2
      omega
theorem GrV.best {s v n : Nat → Nat} : ∀ r t a, GrV s v n t r a → ∀ m, PayV s v m t r a → SR m t r = SR n t r → DG s m t r ≤ DG s n t r := by
  intro r
  induction r with
  | zero => intro t a _ m _ _; exact Nat.le_refl _
  | succ r ih =>
    intro t a h m hm hc
    have hp := h.pay
    obtain ⟨h1, h2, h3, h4, h5⟩ := h
    obtain ⟨m1, m2, m3⟩ := pay_cons hm
    rw [DG, DG]
    have hcm : SR m t (r + 1) = m t + SR m (t + 1) r := rfl
    have hcn : SR n t (r + 1) = n t + SR n (t + 1) r := rfl
    -- the rest of m is a fewest one
    have hfew : FewC s v (t + 1) r (a - m t * v t) (some (SR m (t + 1) r)) := by
      refine ⟨⟨m, m3, rfl⟩, fun q hq => ?_⟩
      obtain ⟨p1, p2⟩ := pay_mk m1 m2 hq
      have := hp.2.2 _ p1
      omega
    by_cases e1 : m t = n t
    · have := ih (t + 1) _ h5 m (by rw [← e1]; exact m3) (by omega)
      rw [e1]
      omega
    · by_cases e2 : n t < m t
      · exfalso
        refine h4 (m t) _ e2 m1 m2 hfew ?_
        rw [← hcm, hc]
        exact hp.2
      · have hlt := DG_lt r (t + 1) m3.1
        have hle : m t + 1 ≤ n t := by omega
        calc m t * PL s (t + 1) r + DG s m (t + 1) r ≤ m t * PL s (t + 1) r + PL s (t + 1) r := by omega
          _ = (m t + 1) * PL s (t + 1) r := by rw [Nat.add_mul, Nat.one_mul]
          _ ≤ n t * PL s (t + 1) r := Nat.mul_le_mul_right _ hle
          _ ≤ n t * PL s (t + 1) r + DG s n (t + 1) r := Nat.le_add_right _ _
/-- the weight of a payout -/
def WT (s n : Nat → Nat) : Nat := SR (fun u => n u * (PL s 0 8 - PQ s u)) 0 8
theorem PL_mono (s : Nat → Nat) : ∀ a t r, PL s (t + a) r ≤ PL s t (a + r) := by
  intro a
  induction a with
  | zero => intro t r; rw [Nat.zero_add, Nat.add_zero]; exact Nat.le_refl _
  | succ a ih =>
    intro t r
    rw [show a + 1 + r = (a + r) + 1 by omega, PL, show t + (a + 1) = (t + 1) + a by omega]
    calc PL s (t + 1 + a) r ≤ PL s (t + 1) (a + r) := ih _ _
      _ ≤ (s t + 1) * PL s (t + 1) (a + r) := Nat.le_mul_of_pos_left _ (by omega)
theorem PQ_le {s : Nat → Nat} {u : Nat} (h : u < 8) : PQ s u ≤ PL s 0 8 := by
  have := PL_mono s (u + 1) 0 (7 - u)
  rw [Nat.zero_add, show u + 1 + (7 - u) = 8 by omega] at this
  exact this
theorem WT_eq {s n : Nat → Nat} : WT s n + DG s n 0 8 = PL s 0 8 * SR n 0 8 := by
  rw [DG_SR 8 0 (by omega)]
  unfold WT
  have : ∀ r t, t + r = 8 → SR (fun u => n u * (PL s 0 8 - PQ s u)) t r + SR (fun u => n u * PQ s u) t r = PL s 0 8 * SR n t r := by
    intro r
    induction r with
    | zero => intro t _; simp [SR]
    | succ r ih =>
      intro t h
      rw [SR, SR, SR, Nat.mul_add, ← ih (t + 1) (by omega)]
      have h1 := PQ_le (s := s) (u := t) (by omega)
      have : n t * (PL s 0 8 - PQ s t) + n t * PQ s t = PL s 0 8 * n t := by
        rw [← Nat.mul_add, Nat.sub_add_cancel h1, Nat.mul_comm]
      omega
  exact this 8 0 (by omega)
/-- the greedy payout is the lightest -/
theorem GrV.light {s v n : Nat → Nat} {a : Nat} (h : GrV s v n 0 8 a) {m : Nat → Nat} (hm : PayV s v m 0 8 a) : WT s n ≤ WT s m := by
  obtain ⟨hp, hf⟩ := h.pay
  have hc := hf.2 m hm
  have e1 := WT_eq (s := s) (n := n)
  have e2 := WT_eq (s := s) (n := m)
  have d2 := DG_lt 8 0 hm.1
  by_cases he : SR m 0 8 = SR n 0 8
  · have := h.best 8 0 a m hm he
    rw [he] at e2
    omega
  · have hlt : SR n 0 8 + 1 ≤ SR m 0 8 := by omega
    have := Nat.mul_le_mul_left (PL s 0 8) hlt
    rw [Nat.mul_add, Nat.mul_one] at this
    omega
/-- what the weight tells -/
theorem WT_count {s n : Nat → Nat} (h : ∀ u, u < 8 → n u ≤ s u) : (WT s n + PL s 0 8 - 1) / PL s 0 8 = SR n 0 8 ∧ SR n 0 8 * PL s 0 8 - WT s n = DG s n 0 8 := by
  have e1 := WT_eq (s := s) (n := n)
  have d := DG_lt 8 0 (s := s) (n := n) (fun u _ h2 => h u (by omega))
  have hp := PL_pos s 8 0
  constructor
  · have : WT s n + PL s 0 8 - 1 = PL s 0 8 * SR n 0 8 + (PL s 0 8 - 1 - DG s n 0 8) := by omega
    rw [this, Nat.mul_add_div hp, Nat.div_eq_of_lt (by omega), Nat.add_zero]
  · rw [Nat.mul_comm]
    omega
