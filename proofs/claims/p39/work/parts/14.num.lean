/-! numbers -/
theorem zk_b0 (b : Bool) : (zk_b b = 0) = (b = false) := by cases b <;> simp [zk_b]
theorem zk_bt : zk_b true = 1 := rfl
theorem zk_bf : zk_b false = 0 := rfl
theorem n_cl {n : Nat} (h : n < 2 ^ 31) : (nI n).toNatClampNeg = n := nI_clamp h
theorem n_div2 {n : Nat} (h : n < 2 ^ 31) : nI n / 2 = nI (n / 2) := pk_div (d := 2) h (by decide) (by decide)
theorem n_rem2 {n : Nat} (h : n < 2 ^ 31) : nI n - nI n / 2 * 2 = nI (n % 2) := pk_rem (d := 2) h (by decide) (by decide)
theorem n_succ (n : Nat) : nI n + 1 = nI (n + 1) := (nI_succ n).symm
theorem n_0 : (0 : Int32) = nI 0 := rfl
theorem n_in {n N : Nat} (h : n < N) (hN : N < 2 ^ 31) : vp_in (nI n) N := vp_in_nI h hN
/-- an int from 0 to below n -/
def m_isIn (v lo hi : Int32) : Bool := decide (lo ≤ v ∧ v ≤ hi)
theorem n_bmod {z : Int} (h1 : -2147483648 ≤ z) (h2 : z < 2147483648) : z.bmod (2 ^ 32) = z := by
  rw [Int.bmod_eq_emod]
  split <;> omega
theorem n_addI {x y : Int32} (h1 : -2147483648 ≤ x.toInt + y.toInt) (h2 : x.toInt + y.toInt < 2147483648) : (x + y).toInt = x.toInt + y.toInt := by
  rw [Int32.toInt_add, n_bmod h1 h2]
theorem n_subI {x y : Int32} (h1 : -2147483648 ≤ x.toInt - y.toInt) (h2 : x.toInt - y.toInt < 2147483648) : (x - y).toInt = x.toInt - y.toInt := by
  rw [Int32.toInt_sub, n_bmod h1 h2]
theorem n_mulI {x y : Int32} (h1 : -2147483648 ≤ x.toInt * y.toInt) (h2 : x.toInt * y.toInt < 2147483648) : (x * y).toInt = x.toInt * y.toInt := by
  rw [Int32.toInt_mul, n_bmod h1 h2]
theorem n_pred {n : Nat} (h : n < 2 ^ 30) : (nI n - 1).toInt = (n : Int) - 1 := by
  have h1 := nI_toInt (n := n) (by omega)
  rw [n_subI (by rw [h1]; simp; omega) (by rw [h1]; simp; omega), h1]
  rfl
theorem m_isIn_lt {v : Int32} {n : Nat} (hn : n < 2 ^ 30) (h : m_isIn v 0 (nI n - 1) = true) : ∃ j, j < n ∧ v = nI j := by
  unfold m_isIn at h
  have h := of_decide_eq_true h
  rw [Int32.le_iff_toInt_le, Int32.le_iff_toInt_le, n_pred hn] at h
  have h0 : (0 : Int32).toInt = 0 := rfl
  rw [h0] at h
  refine ⟨v.toInt.toNat, by omega, ?_⟩
  apply Int32.toInt_inj.mp
  rw [nI_toInt (by omega)]
  omega
theorem m_isIn_nI {j n : Nat} (hn : n < 2 ^ 30) (h : j < n) : m_isIn (nI j) 0 (nI n - 1) = true := by
  unfold m_isIn
  apply decide_eq_true
  rw [Int32.le_iff_toInt_le, Int32.le_iff_toInt_le, n_pred hn, nI_toInt (by omega)]
  have h0 : (0 : Int32).toInt = 0 := rfl
  rw [h0]
  omega
/-- a sum, a count, an 'all' over the first n -/
def m_sum (f : Nat → Int32) : Nat → Int32
  | 0 => 0
  | n + 1 => m_sum f n + f n
def m_all (p : Nat → Bool) : Nat → Bool
  | 0 => true
  | n + 1 => m_all p n && p n
theorem m_all_iff (p : Nat → Bool) : ∀ n, m_all p n = true ↔ ∀ k, k < n → p k = true
  | 0 => ⟨fun _ k h => absurd h (Nat.not_lt_zero k), fun _ => rfl⟩
  | n + 1 => by
    unfold m_all
    rw [Bool.and_eq_true, m_all_iff p n]
    constructor
    · rintro ⟨h1, h2⟩ k hk
      rcases Nat.lt_succ_iff_lt_or_eq.mp hk with h | h
      · exact h1 k h
      · rw [h]; exact h2
    · intro h
      exact ⟨fun k hk => h k (by omega), h n (by omega)⟩
theorem m_all_false {p : Nat → Bool} {n k : Nat} (hk : k < n) (h : p k = false) : m_all p n = false := by
  cases e : m_all p n with
  | false => rfl
  | true => rw [(m_all_iff p n).mp e k hk] at h; cases h
theorem m_sum_cong {f g : Nat → Int32} : ∀ {n : Nat}, (∀ k, k < n → f k = g k) → m_sum f n = m_sum g n
  | 0, _ => rfl
  | n + 1, h => by rw [m_sum, m_sum, m_sum_cong (fun k hk => h k (by omega)), h n (by omega)]
/-- the reference's sizes -/
def m_nr (J : Nat → Nat → Int32) : Nat := (J 22 1).toNatClampNeg
def m_nd (J : Nat → Nat → Int32) : Nat := (J 22 9).toNatClampNeg
def m_nw (J : Nat → Nat → Int32) : Nat := (J 22 17).toNatClampNeg
def m_ns (J : Nat → Nat → Int32) : Nat := (J 22 23).toNatClampNeg
def MS (J : Nat → Nat → Int32) : Prop := (J 22 1 = nI (m_nr J) ∧ m_nr J ≤ 20) ∧ (J 22 9 = nI (m_nd J) ∧ m_nd J ≤ 40) ∧ (J 22 17 = nI (m_nw J) ∧ m_nw J ≤ 0) ∧ (J 22 23 = nI (m_ns J) ∧ m_ns J ≤ 10)
theorem zk_ite {S : Type} (c : Prop) [Decidable c] (a b : Int32) (P : zk_P S) (σ : S) (sz : Nat) : P (some (.int (if c then a else b))) σ sz = ((c → P (some (.int a)) σ sz) ∧ (¬ c → P (some (.int b)) σ sz)) := by
  by_cases h : c <;> simp [h]
theorem zk_nn (c A B : Prop) : ((¬ c → A) ∧ (¬ ¬ c → B)) = ((c → B) ∧ (¬ c → A)) := by
  by_cases h : c <;> simp [h]
theorem zk_or (c d A B : Prop) : ((c ∨ d → A) ∧ (¬ (c ∨ d) → B)) = ((c → A) ∧ (¬ c → (d → A) ∧ (¬ d → B))) := by
  by_cases h : c <;> by_cases h2 : d <;> simp [h, h2]
theorem n_sub {a b : Nat} (h : b ≤ a) : nI a - nI b = nI (a - b) := pk_sub h
theorem n_mul (a b : Nat) : nI a * nI b = nI (a * b) := pk_mul a b
theorem n_add (a b : Nat) : nI a + nI b = nI (a + b) := nI_add a b
theorem n_inj {a b : Nat} (ha : a < 2 ^ 31) (hb : b < 2 ^ 31) : (nI a = nI b) = (a = b) := propext (nI_eq ha hb)
theorem n_par (e : Nat) : (e % 2 = 0 ∧ nI (e % 2) = 0) ∨ (e % 2 = 1 ∧ nI (e % 2) = 1) := by
  rcases Nat.mod_two_eq_zero_or_one e with h | h
  · exact Or.inl ⟨h, by rw [h]; rfl⟩
  · exact Or.inr ⟨h, by rw [h]; rfl⟩
theorem zk_lit : ((2 : Int32) = 0) = False ∧ ((1 : Int32) = 0) = False ∧ ((0 : Int32) = 1) = False ∧ ((-1 : Int32) = 0) = False ∧ ((-2 : Int32) = 0) = False ∧ ((3 : Int32) = 0) = False ∧ ((100 : Int32) = 0) = False ∧ ((-1 : Int32) = -2) = False ∧ ((-2 : Int32) = -1) = False := by decide
theorem zk_uj_ap (J : Nat → Nat → Int32) (o k : Nat) (x : Int32) (a b : Nat) : zk_uj J o k x a b = if a = o ∧ b = k then x else J a b := rfl
theorem zk_un_ap {α : Type} (f : Nat → α) (k : Nat) (g : α) (o : Nat) : zk_un f k g o = if o = k then g else f o := rfl
theorem zk_un_un {α : Type} (f : Nat → α) (k : Nat) (g g2 : α) : zk_un (zk_un f k g) k g2 = zk_un f k g2 := by
  funext o; unfold zk_un; split <;> rfl
theorem zk_uj_uj (J : Nat → Nat → Int32) (o k : Nat) (x y : Int32) : zk_uj (zk_uj J o k x) o k y = zk_uj J o k y := by
  funext a b; unfold zk_uj; split <;> rfl
theorem zk_uj_self (J : Nat → Nat → Int32) (o k : Nat) : zk_uj J o k (J o k) = J := by
  funext a b; unfold zk_uj; split
  · rename_i h; rw [h.1, h.2]
  · rfl
theorem zk_un_self {α : Type} (f : Nat → α) (k : Nat) : zk_un f k (f k) = f := by
  funext a; unfold zk_un; split
  · rename_i h; rw [h]
  · rfl
theorem zk_unit_if {α : Sort _} (a b : α) : (if True then a else b) = a := by simp
/-- what both sides keep: sizes and the arrays 23 to 46 -/
def ES (J J2 : Nat → Nat → Int32) (N N2 : Nat → Nat → Int32) : Prop := J2 22 1 = J 22 1 ∧ J2 22 9 = J 22 9 ∧ J2 22 17 = J 22 17 ∧ J2 22 23 = J 22 23 ∧ ∀ o, 23 ≤ o → o ≤ 46 → N2 o = N o


