/-! what a text says: its tokens -/
def tx_l (c : Int) : Prop := 97 ≤ c ∧ c ≤ 122
def tx_d (c : Int) : Prop := 48 ≤ c ∧ c ≤ 57
def tx_b (c : Int) : Prop := c = 32 ∨ c = 10
def tx_s (c : Int) : Prop := c = 59 ∨ c = 60 ∨ c = 61 ∨ c = 62 ∨ c = 40 ∨ c = 41
def tx_r (c : Int) : Prop := tx_l c ∨ tx_d c
/-- a word's number, by letters of 27 and by bytes; a number's -/
def tx_27 (B : Nat → Int) (q : Nat) : Nat → Int
  | 0 => 0
  | j + 1 => tx_27 B q j * 27 + (B (q + j) - 96)
def tx_256 (B : Nat → Int) (q : Nat) : Nat → Int
  | 0 => 0
  | j + 1 => tx_256 B q j * 256 + B (q + j)
def tx_10 (B : Nat → Int) (q : Nat) : Nat → Int
  | 0 => 0
  | j + 1 => tx_10 B q j * 10 + (B (q + j) - 48)
/-- a token: the end, none that can be, a sign, a number, a word with both its numbers -/
abbrev tx_K : Type := Nat × Int × Int
def tx_stop : tx_K := (0, 0, 0)
def tx_no : tx_K := (1, 0, 0)
def tx_sg (c : Int) : tx_K := (2, c, 0)
def tx_nb (v : Int) : tx_K := (3, v, 0)
def tx_wd (a b : Int) : tx_K := (4, a, b)
/-- blanks up to q -/
def tx_sk (B : Nat → Int) (n p q : Nat) : Prop := p ≤ q ∧ q ≤ n ∧ (∀ r, p ≤ r → r < q → tx_b (B r)) ∧ (q < n → ¬ tx_b (B q))
/-- letters and digits up to e -/
def tx_ru (B : Nat → Int) (n q e : Nat) : Prop := q < e ∧ e ≤ n ∧ (∀ r, q ≤ r → r < e → tx_r (B r)) ∧ (e < n → ¬ tx_r (B e))
def tx_lt (B : Nat → Int) (q e : Nat) : Prop := ∀ r, q ≤ r → r < e → tx_l (B r)
def tx_dg (B : Nat → Int) (q e : Nat) : Prop := ∀ r, q ≤ r → r < e → tx_d (B r)
def tx_rt (B : Nat → Int) (q e : Nat) (t : tx_K) : Prop := (tx_lt B q e ∧ e - q ≤ 7 ∧ t = tx_wd (tx_27 B q (e - q)) (tx_256 B q (e - q))) ∨ (tx_dg B q e ∧ e - q ≤ 3 ∧ t = tx_nb (tx_10 B q (e - q))) ∨ (¬ (tx_lt B q e ∧ e - q ≤ 7) ∧ ¬ (tx_dg B q e ∧ e - q ≤ 3) ∧ t = tx_no)
/-- the token ahead of p: what it is, where, where it ends -/
def tx_X (B : Nat → Int) (n lim p : Nat) (t : tx_K) (a p' : Nat) : Prop := ∃ q, tx_sk B n p q ∧ ((lim < n ∧ lim ≤ q ∧ t = tx_no ∧ a = lim ∧ p' = q) ∨
  (¬ (lim < n ∧ lim ≤ q) ∧ q = n ∧ t = tx_stop ∧ a = q ∧ p' = q) ∨
  (¬ (lim < n ∧ lim ≤ q) ∧ q < n ∧ ¬ tx_r (B q) ∧ ((tx_s (B q) ∧ t = tx_sg (B q)) ∨ (¬ tx_s (B q) ∧ t = tx_no)) ∧ a = q ∧ p' = q + 1) ∨
  (¬ (lim < n ∧ lim ≤ q) ∧ q < n ∧ tx_r (B q) ∧ tx_ru B n q p' ∧ tx_rt B q p' t ∧ a = q))
theorem tx_sk_one {B : Nat → Int} {n p q q' : Nat} (h : tx_sk B n p q) (h' : tx_sk B n p q') : q = q' := by
  obtain ⟨a1, a2, a3, a4⟩ := h
  obtain ⟨b1, b2, b3, b4⟩ := h'
  rcases Nat.lt_trichotomy q q' with e | e | e
  · exact absurd (b3 q a1 e) (a4 (by omega))
  · exact e
  · exact absurd (a3 q' b1 e) (b4 (by omega))
theorem tx_ru_one {B : Nat → Int} {n q e e' : Nat} (h : tx_ru B n q e) (h' : tx_ru B n q e') : e = e' := by
  obtain ⟨a1, a2, a3, a4⟩ := h
  obtain ⟨b1, b2, b3, b4⟩ := h'
  rcases Nat.lt_trichotomy e e' with f | f | f
  · exact absurd (b3 e (by omega) f) (a4 (by omega))
  · exact f
  · exact absurd (a3 e' (by omega) f) (b4 (by omega))
theorem tx_lt_dgts {B : Nat → Int} {q e : Nat} (hq : q < e) (h1 : tx_lt B q e) (h2 : tx_dg B q e) : False := by
  obtain ⟨a, b⟩ := h1 q (Nat.le_refl _) hq
  obtain ⟨c, d⟩ := h2 q (Nat.le_refl _) hq
  omega
theorem tx_rt_one {B : Nat → Int} {q e : Nat} {t t' : tx_K} (hq : q < e) (h : tx_rt B q e t) (h' : tx_rt B q e t') : t = t' := by
  rcases h with ⟨a1, a2, a3⟩ | ⟨a1, a2, a3⟩ | ⟨a1, a2, a3⟩ <;> rcases h' with ⟨b1, b2, b3⟩ | ⟨b1, b2, b3⟩ | ⟨b1, b2, b3⟩
  · rw [a3, b3]
  · exact (tx_lt_dgts hq a1 b1).elim
  · exact absurd ⟨a1, a2⟩ b1
  · exact (tx_lt_dgts hq b1 a1).elim
  · rw [a3, b3]
  · exact absurd ⟨a1, a2⟩ b2
  · exact absurd ⟨b1, b2⟩ a1
  · exact absurd ⟨b1, b2⟩ a2
  · rw [a3, b3]
theorem tx_X_one {B : Nat → Int} {n lim p : Nat} {t t' : tx_K} {a a' p1 p2 : Nat} (h : tx_X B n lim p t a p1) (h' : tx_X B n lim p t' a' p2) : t = t' ∧ a = a' ∧ p1 = p2 := by
  obtain ⟨q, hq, h⟩ := h
  obtain ⟨q', hq', h'⟩ := h'
  obtain rfl := tx_sk_one hq hq'
  rcases h with ⟨a1, a2, rfl, rfl, rfl⟩ | ⟨a1, a2, rfl, rfl, rfl⟩ | ⟨a1, a2, a3, a4, rfl, rfl⟩ | ⟨a1, a2, a3, a4, a5, rfl⟩
  · rcases h' with ⟨b1, b2, rfl, rfl, rfl⟩ | ⟨b1, -⟩ | ⟨b1, -⟩ | ⟨b1, -⟩
    · exact ⟨rfl, rfl, rfl⟩
    · exact absurd ⟨a1, a2⟩ b1
    · exact absurd ⟨a1, a2⟩ b1
    · exact absurd ⟨a1, a2⟩ b1
  · rcases h' with ⟨b1, b2, -⟩ | ⟨b1, b2, rfl, rfl, rfl⟩ | ⟨b1, b2, -⟩ | ⟨b1, b2, -⟩
    · exact absurd ⟨b1, b2⟩ a1
    · exact ⟨rfl, rfl, rfl⟩
    · omega
    · omega
  · rcases h' with ⟨b1, b2, -⟩ | ⟨b1, b2, -⟩ | ⟨b1, b2, b3, b4, rfl, rfl⟩ | ⟨b1, b2, b3, -⟩
    · exact absurd ⟨b1, b2⟩ a1
    · omega
    · rcases a4 with ⟨c1, rfl⟩ | ⟨c1, rfl⟩ <;> rcases b4 with ⟨d1, rfl⟩ | ⟨d1, rfl⟩
      · exact ⟨rfl, rfl, rfl⟩
      · exact absurd c1 d1
      · exact absurd d1 c1
      · exact ⟨rfl, rfl, rfl⟩
    · exact absurd b3 a3
  · rcases h' with ⟨b1, b2, -⟩ | ⟨b1, b2, -⟩ | ⟨b1, b2, b3, -⟩ | ⟨b1, b2, b3, b4, b5, rfl⟩
    · exact absurd ⟨b1, b2⟩ a1
    · omega
    · exact absurd a3 b3
    · obtain rfl := tx_ru_one a4 b4
      exact ⟨tx_rt_one a4.1 a5 b5, rfl, rfl⟩
/-! words: two numbers of one word -/
def tx_co (a b : Int) : Prop := ∃ (B : Nat → Int) (q k : Nat), 1 ≤ k ∧ k ≤ 7 ∧ (∀ j, j < k → tx_l (B (q + j))) ∧ a = tx_27 B q k ∧ b = tx_256 B q k
theorem tx_27_pos {B : Nat → Int} {q : Nat} : ∀ k, (∀ j, j < k → tx_l (B (q + j))) → 0 ≤ tx_27 B q k ∧ (1 ≤ k → 1 ≤ tx_27 B q k)
  | 0, _ => ⟨Int.le_refl _, fun h => by omega⟩
  | k + 1, h => by
    have ih := (tx_27_pos k (fun j hj => h j (by omega))).1
    obtain ⟨h1, h2⟩ := h k (by omega)
    unfold tx_27
    exact ⟨by omega, fun _ => by omega⟩
theorem tx_256_pos {B : Nat → Int} {q : Nat} : ∀ k, (∀ j, j < k → tx_l (B (q + j))) → 0 ≤ tx_256 B q k ∧ (1 ≤ k → 1 ≤ tx_256 B q k)
  | 0, _ => ⟨Int.le_refl _, fun h => by omega⟩
  | k + 1, h => by
    have ih := (tx_256_pos k (fun j hj => h j (by omega))).1
    obtain ⟨h1, h2⟩ := h k (by omega)
    unfold tx_256
    exact ⟨by omega, fun _ => by omega⟩
theorem tx_27_inj {B B' : Nat → Int} {q q' : Nat} : ∀ k k', (∀ j, j < k → tx_l (B (q + j))) → (∀ j, j < k' → tx_l (B' (q' + j))) → tx_27 B q k = tx_27 B' q' k' → k = k' ∧ ∀ j, j < k → B (q + j) = B' (q' + j)
  | 0, 0, _, _, _ => ⟨rfl, fun j hj => by omega⟩
  | 0, k' + 1, _, h', e => by
    have := (tx_27_pos (k' + 1) h').2 (by omega)
    rw [← e] at this
    exact absurd (show (1 : Int) ≤ 0 from this) (by decide)
  | k + 1, 0, h, _, e => by
    have := (tx_27_pos (k + 1) h).2 (by omega)
    rw [e] at this
    exact absurd (show (1 : Int) ≤ 0 from this) (by decide)
  | k + 1, k' + 1, h, h', e => by
    obtain ⟨h1, h2⟩ := h k (by omega)
    obtain ⟨h3, h4⟩ := h' k' (by omega)
    unfold tx_27 at e
    obtain ⟨e1, e2⟩ := tx_27_inj k k' (fun j hj => h j (by omega)) (fun j hj => h' j (by omega)) (by omega)
    subst e1
    refine ⟨rfl, fun j hj => ?_⟩
    by_cases hjk : j = k
    · subst hjk; omega
    · exact e2 j (by omega)
theorem tx_256_inj {B B' : Nat → Int} {q q' : Nat} : ∀ k k', (∀ j, j < k → tx_l (B (q + j))) → (∀ j, j < k' → tx_l (B' (q' + j))) → tx_256 B q k = tx_256 B' q' k' → k = k' ∧ ∀ j, j < k → B (q + j) = B' (q' + j)
  | 0, 0, _, _, _ => ⟨rfl, fun j hj => by omega⟩
  | 0, k' + 1, _, h', e => by
    have := (tx_256_pos (k' + 1) h').2 (by omega)
    rw [← e] at this
    exact absurd (show (1 : Int) ≤ 0 from this) (by decide)
  | k + 1, 0, h, _, e => by
    have := (tx_256_pos (k + 1) h).2 (by omega)
    rw [e] at this
    exact absurd (show (1 : Int) ≤ 0 from this) (by decide)
  | k + 1, k' + 1, h, h', e => by
    obtain ⟨h1, h2⟩ := h k (by omega)
    obtain ⟨h3, h4⟩ := h' k' (by omega)
    unfold tx_256 at e
    obtain ⟨e1, e2⟩ := tx_256_inj k k' (fun j hj => h j (by omega)) (fun j hj => h' j (by omega)) (by omega)
    subst e1
    refine ⟨rfl, fun j hj => ?_⟩
    by_cases hjk : j = k
    · subst hjk; omega
    · exact e2 j (by omega)
theorem tx_27_same {B B' : Nat → Int} {q q' : Nat} : ∀ k, (∀ j, j < k → B (q + j) = B' (q' + j)) → tx_27 B q k = tx_27 B' q' k
  | 0, _ => rfl
  | k + 1, h => by
    unfold tx_27
    rw [tx_27_same k (fun j hj => h j (by omega)), h k (by omega)]
theorem tx_256_same {B B' : Nat → Int} {q q' : Nat} : ∀ k, (∀ j, j < k → B (q + j) = B' (q' + j)) → tx_256 B q k = tx_256 B' q' k
  | 0, _ => rfl
  | k + 1, h => by
    unfold tx_256
    rw [tx_256_same k (fun j hj => h j (by omega)), h k (by omega)]
theorem tx_co_one {a b a' b' : Int} (h : tx_co a b) (h' : tx_co a' b') : a = a' ↔ b = b' := by
  obtain ⟨B, q, k, -, -, h1, rfl, rfl⟩ := h
  obtain ⟨B', q', k', -, -, h2, rfl, rfl⟩ := h'
  constructor
  · intro e
    obtain ⟨rfl, e2⟩ := tx_27_inj k k' h1 h2 e
    exact tx_256_same k e2
  · intro e
    obtain ⟨rfl, e2⟩ := tx_256_inj k k' h1 h2 e
    exact tx_27_same k e2
theorem tx_27_lt {B : Nat → Int} {q : Nat} : ∀ k, (∀ j, j < k → tx_l (B (q + j))) → tx_27 B q k < 27 ^ k
  | 0, _ => show (0 : Int) < 1 by decide
  | k + 1, h => by
    have ih := tx_27_lt k (fun j hj => h j (by omega))
    obtain ⟨h1, h2⟩ := h k (by omega)
    unfold tx_27
    rw [Int.pow_succ]
    omega
theorem tx_256_lt {B : Nat → Int} {q : Nat} : ∀ k, (∀ j, j < k → tx_l (B (q + j))) → tx_256 B q k < 256 ^ k
  | 0, _ => show (0 : Int) < 1 by decide
  | k + 1, h => by
    have ih := tx_256_lt k (fun j hj => h j (by omega))
    obtain ⟨h1, h2⟩ := h k (by omega)
    unfold tx_256
    rw [Int.pow_succ]
    omega
