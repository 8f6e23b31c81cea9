section XPURE
theorem xp_inc1 (n : Nat) : nI n + Int32.ofInt 1 = nI (n + 1) := by
  have h : Int32.ofInt 1 = 1 := by decide
  rw [h]; exact nI_1 n
theorem xp_eq0 {a : Nat} (h : a < 2 ^ 31) : nI a = 0 ↔ a = 0 := by
  rw [← nI_0]; exact nI_eq h (by decide)
theorem xp_0le {a : Nat} (h : a < 2 ^ 31) : 0 ≤ nI a ↔ 0 ≤ a := by
  rw [← nI_0]; exact nI_leI (by decide) h
theorem xp_le0 {a : Nat} (h : a < 2 ^ 31) : nI a ≤ 0 ↔ a ≤ 0 := by
  rw [← nI_0]; exact nI_leI h (by decide)
theorem xp_lt0 {a : Nat} (h : a < 2 ^ 31) : nI a < 0 ↔ a < 0 := by
  rw [← nI_0]; exact nI_ltI h (by decide)
theorem xp_0lt {a : Nat} (h : a < 2 ^ 31) : 0 < nI a ↔ 0 < a := by
  rw [← nI_0]; exact nI_ltI (by decide) h
theorem xp_nem1 {a : Nat} (h : a < 2 ^ 31) : ¬ nI a = -1 := by
  intro q
  have e := nI_toInt h
  rw [q] at e
  have e2 : (-1 : Int32).toInt = -1 := by decide
  rw [e2] at e
  omega
/-- sums -/
def xs_sm (f : Nat → Nat) : Nat → Nat
  | 0 => 0
  | n + 1 => xs_sm f n + f n
theorem xs_add (f : Nat → Nat) (a b : Nat) : xs_sm f (a + b) = xs_sm f a + xs_sm (fun j => f (a + j)) b := by
  induction b with
  | zero => rfl
  | succ b ih =>
    show xs_sm f (a + b) + f (a + b) = xs_sm f a + (xs_sm (fun j => f (a + j)) b + f (a + b))
    omega
theorem xs_congr {f g : Nat → Nat} {n : Nat} (h : ∀ j, j < n → f j = g j) : xs_sm f n = xs_sm g n := by
  induction n with
  | zero => rfl
  | succ n ih =>
    show xs_sm f n + f n = xs_sm g n + g n
    rw [ih (fun j hj => h j (by omega)), h n (by omega)]
theorem xs_zero {f : Nat → Nat} {n : Nat} : xs_sm f n = 0 ↔ ∀ j, j < n → f j = 0 := by
  induction n with
  | zero => exact ⟨fun _ j hj => by omega, fun _ => rfl⟩
  | succ n ih =>
    constructor
    · intro h j hj
      have h2 : xs_sm f n + f n = 0 := h
      rcases Nat.lt_or_ge j n with c | c
      · exact ih.mp (by omega) j c
      · have : j = n := by omega
        subst this; omega
    · intro h
      show xs_sm f n + f n = 0
      have h1 := ih.mpr (fun j hj => h j (by omega))
      have h2 := h n (by omega)
      omega
/-- a full turn from o on counts what a turn from 0 on counts -/
theorem xs_turn (f : Nat → Nat) (h : Nat) (hp : ∀ x, f (x + h) = f x) (o : Nat) : xs_sm (fun j => f (o + j)) h = xs_sm f h := by
  induction o with
  | zero => exact xs_congr (fun j _ => by rw [Nat.zero_add])
  | succ o ih =>
    have e1 : xs_sm (fun j => f (o + j)) (1 + h) = xs_sm (fun j => f (o + j)) 1 + xs_sm (fun j => f (o + (1 + j))) h := xs_add (fun j => f (o + j)) 1 h
    have e2 : xs_sm (fun j => f (o + j)) (h + 1) = xs_sm (fun j => f (o + j)) h + f (o + h) := rfl
    have e3 : xs_sm (fun j => f (o + j)) 1 = 0 + f (o + 0) := rfl
    have e4 : xs_sm (fun j => f (o + 1 + j)) h = xs_sm (fun j => f (o + (1 + j))) h := xs_congr (fun j _ => by rw [Nat.add_assoc])
    rw [Nat.add_comm 1 h, e2, hp o, e3, Nat.add_zero] at e1
    rw [e4]
    omega
theorem xs_blocks (f : Nat → Nat) (p q : Nat) : xs_sm f (q * p) = xs_sm (fun k => xs_sm (fun j => f (k * p + j)) p) q := by
  induction q with
  | zero => rw [Nat.zero_mul]; rfl
  | succ q ih =>
    rw [Nat.succ_mul, xs_add, ih]
    rfl
theorem xs_plus (f g : Nat → Nat) (n : Nat) : xs_sm (fun j => f j + g j) n = xs_sm f n + xs_sm g n := by
  induction n with
  | zero => rfl
  | succ n ih =>
    show xs_sm (fun j => f j + g j) n + (f n + g n) = (xs_sm f n + f n) + (xs_sm g n + g n)
    omega
end XPURE
