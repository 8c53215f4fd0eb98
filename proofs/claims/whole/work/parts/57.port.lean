/-! PORTS: there is always a free one -/
theorem lm_and {n : Nat} (hn : n < 2 ^ 64) : lN n &&& lN 2147483647 = lN (n % 2147483648) := by
  refine Int64.toBitVec_inj.mp ?_
  rw [Int64.toBitVec_and]
  show BitVec.ofNat 64 n &&& BitVec.ofNat 64 2147483647 = BitVec.ofNat 64 _
  refine BitVec.eq_of_toNat_eq ?_
  rw [BitVec.toNat_and, BitVec.toNat_ofNat, BitVec.toNat_ofNat, BitVec.toNat_ofNat, Nat.mod_eq_of_lt hn]
  have e : (2147483647 : Nat) % 2 ^ 64 = 2 ^ 31 - 1 := by decide
  have e2 : (2147483648 : Nat) = 2 ^ 31 := by decide
  rw [e, Nat.and_two_pow_sub_one_eq_mod, e2, Nat.mod_eq_of_lt (a := n % 2 ^ 31)]
  have := Nat.mod_lt n (show 0 < 2 ^ 31 by decide)
  have : (2 : Nat) ^ 31 < 2 ^ 64 := by decide
  omega
/-- the next random number, of numbers -/
def rN (k : Nat) : Nat := (1103515245 * k + 12345) % 2147483648
theorem rN_lt (k : Nat) : rN k < 2147483648 := Nat.mod_lt _ (by decide)
theorem rnd_N {k : Nat} (hk : k < 2147483648) : rnd (nI k) = nI (rN k) := by
  unfold rnd rN
  rw [nI_l hk, lN_mul, lN_add, lm_and (by omega), lN_i]
theorem rnd_L {k : Nat} (hk : k < 2147483648) : lN 1103515245 * (nI k).toInt64 + lN 12345 - (lN 1103515245 * (nI k).toInt64 + lN 12345) / lN 2147483648 * lN 2147483648 = (rnd (nI k)).toInt64 := by
  rw [rnd_N hk, nI_l (rN_lt k), nI_l hk, lN_mul, lN_add, pk_lRem (by omega) (by omega) (by omega)]
  rfl
/-- the port of a random number, of numbers -/
def pN (k : Nat) : Nat := 1000 + k / 65536 % 9000
theorem ptR_N {k : Nat} (hk : k < 2147483648) : ptR (nI k) = nI (pN k) := by
  unfold ptR pN
  rw [pk_div hk (by omega) (by omega), pk_rem (by omega) (by omega) (by omega), nI_add]
theorem ptR_L {k : Nat} (hk : k < 2147483648) : nI 1000 + ((nI k).toInt64 / lN 65536 - (nI k).toInt64 / lN 65536 / lN 9000 * lN 9000).toInt32 = ptR (nI k) := by
  rw [ptR_N hk, nI_l hk, pk_lDiv (by omega) (by omega) (by omega), pk_lRem (by omega) (by omega) (by omega), lN_i, nI_add]
  rfl
theorem php : ∀ (n : Nat) (g : Nat → Nat), (∀ k, k < n + 1 → g k < n) → ∃ a b, a < b ∧ b < n + 1 ∧ g a = g b
  | 0, g, h => by have := h 0 (by omega); omega
  | n + 1, g, h => by
    by_cases c : ∃ a, a < n + 1 ∧ g a = g (n + 1)
    · obtain ⟨a, h1, h2⟩ := c
      exact ⟨a, n + 1, h1, by omega, h2⟩
    · have h1 := h (n + 1) (by omega)
      -- the value of the last one is left out
      obtain ⟨a, b, q1, q2, q3⟩ := php n (fun k => if g k < g (n + 1) then g k else g k - 1) (fun k hk => by
        have k1 := h k (by omega)
        have k2 : g k ≠ g (n + 1) := fun e => c ⟨k, hk, e⟩
        split <;> omega)
      refine ⟨a, b, q1, by omega, ?_⟩
      have a2 : g a ≠ g (n + 1) := fun e => c ⟨a, by omega, e⟩
      have b2 : g b ≠ g (n + 1) := fun e => c ⟨b, by omega, e⟩
      split at q3 <;> split at q3 <;> omega
/-- eight different ports: one of them is free -/
theorem freeP {z : Nat → Int32} {t : Nat} {f : Nat → Int32} (ho : own z t < 8) (hf : ∀ a b, a < b → b < 8 → f a ≠ f b) : ∃ n, n < 8 ∧ ¬ HasP z t (f n) := by
  refine Classical.byContradiction (fun no => ?_)
  have all : ∀ n, n < own z t + 1 → ∃ j, j < own z t ∧ z (176 + 8 * (8 * t + j) + 2) = f n := by
    intro n hn
    refine Classical.byContradiction (fun q => no ⟨n, by omega, fun hh => q ?_⟩)
    exact hh
  obtain ⟨a, b, h1, h2, h3⟩ := php (own z t) (fun n => if h : n < own z t + 1 then Classical.choose (all n h) else 0) (fun k hk => by
    simp only [hk, dif_pos]
    exact (Classical.choose_spec (all k hk)).1)
  have ha : a < own z t + 1 := by omega
  simp only [ha, h2, dif_pos] at h3
  have e1 := (Classical.choose_spec (all a ha)).2
  have e2 := (Classical.choose_spec (all b h2)).2
  rw [h3] at e1
  exact hf a b h1 (by omega) (e1.symm.trans e2)
theorem fst0_ex {f : Nat → Int32} {P : Int32 → Prop} : ∀ (N : Nat), ¬ P (f N) → ∃ n, n ≤ N ∧ fst0 f P n := by
  intro N
  induction N using Nat.strongRecOn with
  | _ N ih =>
    intro h
    by_cases c : ∃ m, m < N ∧ ¬ P (f m)
    · obtain ⟨m, hm, hp⟩ := c
      obtain ⟨n, h1, h2⟩ := ih m hm hp
      exact ⟨n, by omega, h2⟩
    · exact ⟨N, Nat.le_refl _, fun k hk => Classical.not_not.mp (fun q => c ⟨k, hk, q⟩), h⟩
def itN (f : Nat → Nat) : Nat → Nat → Nat
  | 0, c => c
  | n + 1, c => itN f n (f c)
theorem itN_add (f : Nat → Nat) : ∀ (a b c : Nat), itN f (a + b) c = itN f b (itN f a c)
  | 0, b, c => by rw [Nat.zero_add]; rfl
  | a + 1, b, c => by
    rw [show a + 1 + b = (a + b) + 1 by omega]
    exact itN_add f a b (f c)
theorem itN_s (f : Nat → Nat) (n c : Nat) : itN f (n + 1) c = f (itN f n c) := by
  rw [itN_add f n 1 c]
  rfl
theorem itr_N {F : Int32 → Int32} {f : Nat → Nat} {P : Nat → Prop} (hf : ∀ c, P c → F (nI c) = nI (f c) ∧ P (f c)) : ∀ (n c : Nat), P c → itr F n (nI c) = nI (itN f n c) ∧ P (itN f n c)
  | 0, c, h => ⟨rfl, h⟩
  | n + 1, c, h => by
    rw [itr, (hf c h).1]
    exact itr_N hf n (f c) (hf c h).2
/-- the counter, of numbers -/
def nxN (s c : Nat) : Nat := if c + s ≤ 9999 then c + s else 1000
theorem nxC_N {s c : Nat} (hs : s ≤ 9) (hc : c ≤ 9999) : nxC (nI s) (nI c) = nI (nxN s c) := by
  unfold nxC nxN
  rw [nI_add]
  by_cases h : c + s ≤ 9999
  · rw [if_pos h, if_pos ((nI_leI (by omega) (by omega)).mpr h)]
  · rw [if_neg h, if_neg (fun q => h ((nI_leI (by omega) (by omega)).mp q))]
theorem nxN_in {s c : Nat} (hs1 : 1 ≤ s) (hc : 1000 ≤ c ∧ c ≤ 9999) : 1000 ≤ nxN s c ∧ nxN s c ≤ 9999 := by
  unfold nxN
  split <;> omega
theorem nxN_far {s x : Nat} (hs1 : 1 ≤ s) (hs : s ≤ 9) (hx : 1000 ≤ x ∧ x ≤ 9999) : ∀ j, (itN (nxN s) j x = x + j * s ∧ x + j * s ≤ 9999) ∨ (9999 < x + j * s ∧ itN (nxN s) j x ≤ 1000 + j * s)
  | 0 => Or.inl ⟨by simp [itN], by omega⟩
  | j + 1 => by
    have e : (j + 1) * s = j * s + s := Nat.succ_mul j s
    have ih := nxN_far hs1 hs hx j
    rw [itN_s, e]
    generalize itN (nxN s) j x = y at ih ⊢
    generalize j * s = w at ih ⊢
    rcases ih with ⟨h1, h2⟩ | ⟨h1, h2⟩
    · unfold nxN
      split
      · left; omega
      · right; omega
    · right
      unfold nxN
      split <;> omega
theorem nxN_ne {s x d : Nat} (hs1 : 1 ≤ s) (hs : s ≤ 9) (hx : 1000 ≤ x ∧ x ≤ 9999) (h1 : 1 ≤ d) (h2 : d ≤ 8) : itN (nxN s) d x ≠ x := by
  have b1 : d * s ≤ 8 * 9 := Nat.mul_le_mul h2 hs
  have b2 : 1 ≤ d * s := Nat.mul_pos h1 hs1
  rcases nxN_far hs1 hs hx d with ⟨q1, q2⟩ | ⟨q1, q2⟩
  · omega
  · omega
/-- affine steps doubled -/
def dbl : Nat → Nat × Nat
  | 0 => (1103515245, 12345)
  | k + 1 => ((dbl k).1 * (dbl k).1 % 2147483648, ((dbl k).1 * (dbl k).2 + (dbl k).2) % 2147483648)
theorem af_comp (a c x M : Nat) : (a * ((a * x + c) % M) + c) % M = (a * a % M * x + (a * c + c) % M) % M := by
  have e : a * (a * x + c) + c = a * a * x + (a * c + c) := by
    rw [Nat.mul_add, Nat.mul_assoc, Nat.add_assoc]
  have h1 : (a * ((a * x + c) % M) + c) % M = (a * (a * x + c) + c) % M := by
    rw [Nat.add_mod, Nat.mul_mod, Nat.mod_mod, ← Nat.mul_mod, ← Nat.add_mod]
  have h2 : (a * a % M * x + (a * c + c) % M) % M = (a * a * x + (a * c + c)) % M := by
    rw [Nat.add_mod, Nat.mul_mod, Nat.mod_mod, Nat.mod_mod, ← Nat.mul_mod, ← Nat.add_mod]
  rw [h1, h2, e]
theorem dbl_s (k : Nat) : dbl (k + 1) = ((dbl k).1 * (dbl k).1 % 2147483648, ((dbl k).1 * (dbl k).2 + (dbl k).2) % 2147483648) := by rw [dbl]
theorem dbl_ok (k : Nat) : ∀ (x : Nat), itN rN (2 ^ k) x = ((dbl k).1 * x + (dbl k).2) % 2147483648 := by
  induction k with
  | zero =>
    intro x
    simp only [Nat.pow_zero, dbl, itN, rN]
  | succ k ih =>
    intro x
    rw [Nat.pow_succ, Nat.mul_two, itN_add, ih, ih, af_comp, dbl_s]
theorem dbl16 : dbl 16 = (1604583425, 556990464) := by decide +kernel
theorem big_step (x : Nat) : itN rN 65536 x = (1604583425 * x + 556990464) % 2147483648 := by
  have := dbl_ok 16 x
  rw [dbl16] at this
  exact this
/-- 65536 steps move the high part by an odd number, and leave the low part -/
theorem big_hi (x : Nat) : itN rN 65536 x % 65536 = x % 65536 ∧ itN rN 65536 x / 65536 = (x / 65536 + (2 * (12242 * (x % 65536)) + 8499)) % 32768 := by
  rw [big_step]
  obtain ⟨h, l, hl, e, e1, e2⟩ : ∃ h l, l < 65536 ∧ x = 65536 * h + l ∧ x / 65536 = h ∧ x % 65536 = l := ⟨x / 65536, x % 65536, by omega, by omega, rfl, rfl⟩
  rw [e1, e2]
  have q : 1604583425 * x + 556990464 = 2147483648 * (48968 * h) + (65536 * (h + (2 * (12242 * l) + 8499)) + l) := by omega
  rw [q, Nat.mul_add_mod]
  generalize h + (2 * (12242 * l) + 8499) = w
  omega
theorem bigD (u w D : Nat) : ((u + w) % 32768 + D) % 32768 = (u + (w + D)) % 32768 := by omega
theorem big_n (x : Nat) (hx : x < 2147483648) : ∀ (j : Nat), itN rN (65536 * j) x < 2147483648 ∧ itN rN (65536 * j) x % 65536 = x % 65536 ∧ itN rN (65536 * j) x / 65536 = (x / 65536 + j * (2 * (12242 * (x % 65536)) + 8499)) % 32768
  | 0 => by
    rw [Nat.mul_zero]
    show x < 2147483648 ∧ x % 65536 = x % 65536 ∧ x / 65536 = _
    refine ⟨hx, rfl, ?_⟩
    rw [Nat.zero_mul]
    omega
  | j + 1 => by
    obtain ⟨h1, h2, h3⟩ := big_n x hx j
    rw [Nat.mul_succ, itN_add]
    obtain ⟨g1, g2⟩ := big_hi (itN rN (65536 * j) x)
    refine ⟨?_, g1.trans h2, ?_⟩
    · rw [big_step]; exact Nat.mod_lt _ (by decide)
    · rw [g2, h2, h3, Nat.succ_mul j]
      exact bigD (x / 65536) (j * (2 * (12242 * (x % 65536)) + 8499)) (2 * (12242 * (x % 65536)) + 8499)
theorem m8 (y : Nat) : y % 32768 % 9000 % 8 = y % 8 := by omega
theorem odd8 (u w q : Nat) {d : Nat} (h1 : 1 ≤ d) (h2 : d < 8) : (u + w) % 8 ≠ (u + (w + d * (2 * q + 8499))) % 8 := by
  have cs : d = 1 ∨ d = 2 ∨ d = 3 ∨ d = 4 ∨ d = 5 ∨ d = 6 ∨ d = 7 := by omega
  rcases cs with rfl | rfl | rfl | rfl | rfl | rfl | rfl <;> omega
theorem big_ne (x : Nat) (hx : x < 2147483648) {a b : Nat} (hab : a < b) (hb : b < 8) : pN (itN rN (65536 * a) x) ≠ pN (itN rN (65536 * b) x) := by
  obtain ⟨-, -, h3⟩ := big_n x hx a
  obtain ⟨-, -, g3⟩ := big_n x hx b
  intro e
  unfold pN at e
  rw [h3, g3] at e
  obtain ⟨d, rfl, hd⟩ : ∃ d, b = a + d ∧ 1 ≤ d := ⟨b - a, by omega, by omega⟩
  have e8 : _ % 8 = _ % 8 := congrArg (fun q => q % 8) (Nat.add_left_cancel e)
  rw [m8, m8, Nat.add_mul] at e8
  exact odd8 _ _ _ hd (by omega) e8
