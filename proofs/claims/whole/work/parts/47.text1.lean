/-! the words of the command line -/
theorem ite_an {p q : Prop} [Decidable p] [Decidable q] {a b : Int32} : (if p ∧ q then a else b) = if p then (if q then a else b) else b := by
  by_cases h : p
  · by_cases h2 : q
    · rw [if_pos ⟨h, h2⟩, if_pos h, if_pos h2]
    · rw [if_neg (fun z => h2 z.2), if_pos h, if_neg h2]
  · rw [if_neg (fun z => h z.1), if_neg h]
theorem ge_w {z : Int32} {mw n : Nat} (e : z = nI mw) (h : mw ≤ 16) (hn : n ≤ 16) {a b : Int32} : (if nI n ≤ z then a else b) = if n ≤ mw then a else b := by
  subst e
  by_cases c : n ≤ mw
  · rw [if_pos c, if_pos (nI_le c (by omega))]
  · rw [if_neg c, if_neg (fun q => c ((nI_leI (by omega) (by omega)).mp q))]
theorem seq_y {n m : Nat} {f g : Nat → Int32} (e : n = m) (h : ∀ t, t < n → f t = g t) : seq n m f g = 1 := if_pos ⟨e, h⟩
theorem seq_n {n m : Nat} {f g : Nat → Int32} (h : ¬ (n = m ∧ ∀ t, t < n → f t = g t)) : seq n m f g = 0 := if_neg h

def m_pause (f : Nat → Int32) : Prop := f 4 = 101 ∧ f 3 = 115 ∧ f 2 = 117 ∧ f 1 = 97 ∧ f 0 = 112
theorem h_pause {z f : Nat → Int32} {mw : Nat} (e : z 1 = nI mw) (h : mw ≤ 16) : (f_X7_has_pause (z, f) = 0 ∧ ¬ (5 ≤ mw ∧ m_pause f)) ∨ (f_X7_has_pause (z, f) = 1 ∧ 5 ≤ mw ∧ m_pause f) := by
  have q : f_X7_has_pause (z, f) = if 5 ≤ mw ∧ (f 4 = 101 ∧ f 3 = 115 ∧ f 2 = 117 ∧ f 1 = 97 ∧ f 0 = 112) then 1 else 0 := by
    rw [ite_an, ite_an, ite_an, ite_an, ite_an]
    exact ge_w (n := 5) e h (by decide)
  by_cases c : 5 ≤ mw ∧ m_pause f
  · exact Or.inr ⟨q.trans (if_pos c), c.1, c.2⟩
  · exact Or.inl ⟨q.trans (if_neg c), c⟩
theorem w_pause {f : Nat → Int32} (h : m_pause f) : ∀ t, t < 5 → f t = kF 0 t := by
  obtain ⟨h4, h3, h2, h1, h0⟩ := h
  intro t ht
  rcases (show t = 0 ∨ t = 1 ∨ t = 2 ∨ t = 3 ∨ t = 4 by omega) with rfl | rfl | rfl | rfl | rfl
  · exact h0
  · exact h1
  · exact h2
  · exact h3
  · exact h4
theorem u_pause {f : Nat → Int32} (h : ∀ t, t < 5 → f t = kF 0 t) : m_pause f := ⟨h 4 (by decide), h 3 (by decide), h 2 (by decide), h 1 (by decide), h 0 (by decide)⟩
theorem s_pause {f : Nat → Int32} (h : m_pause f) : ∀ t, t < 5 → ¬ f t = 32 := by
  intro t ht
  rw [w_pause h t ht]
  rcases (show t = 0 ∨ t = 1 ∨ t = 2 ∨ t = 3 ∨ t = 4 by omega) with rfl | rfl | rfl | rfl | rfl
  · decide
  · decide
  · decide
  · decide
  · decide
def m_play (f : Nat → Int32) : Prop := f 3 = 121 ∧ f 2 = 97 ∧ f 1 = 108 ∧ f 0 = 112
theorem h_play {z f : Nat → Int32} {mw : Nat} (e : z 1 = nI mw) (h : mw ≤ 16) : (f_X7_has_play (z, f) = 0 ∧ ¬ (4 ≤ mw ∧ m_play f)) ∨ (f_X7_has_play (z, f) = 1 ∧ 4 ≤ mw ∧ m_play f) := by
  have q : f_X7_has_play (z, f) = if 4 ≤ mw ∧ (f 3 = 121 ∧ f 2 = 97 ∧ f 1 = 108 ∧ f 0 = 112) then 1 else 0 := by
    rw [ite_an, ite_an, ite_an, ite_an]
    exact ge_w (n := 4) e h (by decide)
  by_cases c : 4 ≤ mw ∧ m_play f
  · exact Or.inr ⟨q.trans (if_pos c), c.1, c.2⟩
  · exact Or.inl ⟨q.trans (if_neg c), c⟩
theorem w_play {f : Nat → Int32} (h : m_play f) : ∀ t, t < 4 → f t = kF 1 t := by
  obtain ⟨h3, h2, h1, h0⟩ := h
  intro t ht
  rcases (show t = 0 ∨ t = 1 ∨ t = 2 ∨ t = 3 by omega) with rfl | rfl | rfl | rfl
  · exact h0
  · exact h1
  · exact h2
  · exact h3
theorem u_play {f : Nat → Int32} (h : ∀ t, t < 4 → f t = kF 1 t) : m_play f := ⟨h 3 (by decide), h 2 (by decide), h 1 (by decide), h 0 (by decide)⟩
theorem s_play {f : Nat → Int32} (h : m_play f) : ∀ t, t < 4 → ¬ f t = 32 := by
  intro t ht
  rw [w_play h t ht]
  rcases (show t = 0 ∨ t = 1 ∨ t = 2 ∨ t = 3 by omega) with rfl | rfl | rfl | rfl
  · decide
  · decide
  · decide
  · decide
def m_policy (f : Nat → Int32) : Prop := f 6 = 32 ∧ f 5 = 121 ∧ f 4 = 99 ∧ f 3 = 105 ∧ f 2 = 108 ∧ f 1 = 111 ∧ f 0 = 112
theorem h_policy {z f : Nat → Int32} {mw : Nat} (e : z 1 = nI mw) (h : mw ≤ 16) : (f_X7_has_policy (z, f) = 0 ∧ ¬ (7 ≤ mw ∧ m_policy f)) ∨ (f_X7_has_policy (z, f) = 1 ∧ 7 ≤ mw ∧ m_policy f) := by
  have q : f_X7_has_policy (z, f) = if 7 ≤ mw ∧ (f 6 = 32 ∧ f 5 = 121 ∧ f 4 = 99 ∧ f 3 = 105 ∧ f 2 = 108 ∧ f 1 = 111 ∧ f 0 = 112) then 1 else 0 := by
    rw [ite_an, ite_an, ite_an, ite_an, ite_an, ite_an, ite_an]
    exact ge_w (n := 7) e h (by decide)
  by_cases c : 7 ≤ mw ∧ m_policy f
  · exact Or.inr ⟨q.trans (if_pos c), c.1, c.2⟩
  · exact Or.inl ⟨q.trans (if_neg c), c⟩
theorem w_policy {f : Nat → Int32} (h : m_policy f) : ∀ t, t < 6 → f t = kF 2 t := by
  obtain ⟨h6, h5, h4, h3, h2, h1, h0⟩ := h
  intro t ht
  rcases (show t = 0 ∨ t = 1 ∨ t = 2 ∨ t = 3 ∨ t = 4 ∨ t = 5 by omega) with rfl | rfl | rfl | rfl | rfl | rfl
  · exact h0
  · exact h1
  · exact h2
  · exact h3
  · exact h4
  · exact h5
theorem u_policy {f : Nat → Int32} (h : ∀ t, t < 6 → f t = kF 2 t) (hs : f 6 = 32) : m_policy f := ⟨hs, h 5 (by decide), h 4 (by decide), h 3 (by decide), h 2 (by decide), h 1 (by decide), h 0 (by decide)⟩
theorem s_policy {f : Nat → Int32} (h : m_policy f) : ∀ t, t < 6 → ¬ f t = 32 := by
  intro t ht
  rw [w_policy h t ht]
  rcases (show t = 0 ∨ t = 1 ∨ t = 2 ∨ t = 3 ∨ t = 4 ∨ t = 5 by omega) with rfl | rfl | rfl | rfl | rfl | rfl
  · decide
  · decide
  · decide
  · decide
  · decide
  · decide
def m_cap (f : Nat → Int32) : Prop := f 3 = 32 ∧ f 2 = 112 ∧ f 1 = 97 ∧ f 0 = 99
theorem h_cap {z f : Nat → Int32} {mw : Nat} (e : z 1 = nI mw) (h : mw ≤ 16) : (f_X7_has_cap (z, f) = 0 ∧ ¬ (4 ≤ mw ∧ m_cap f)) ∨ (f_X7_has_cap (z, f) = 1 ∧ 4 ≤ mw ∧ m_cap f) := by
  have q : f_X7_has_cap (z, f) = if 4 ≤ mw ∧ (f 3 = 32 ∧ f 2 = 112 ∧ f 1 = 97 ∧ f 0 = 99) then 1 else 0 := by
    rw [ite_an, ite_an, ite_an, ite_an]
    exact ge_w (n := 4) e h (by decide)
  by_cases c : 4 ≤ mw ∧ m_cap f
  · exact Or.inr ⟨q.trans (if_pos c), c.1, c.2⟩
  · exact Or.inl ⟨q.trans (if_neg c), c⟩
theorem w_cap {f : Nat → Int32} (h : m_cap f) : ∀ t, t < 3 → f t = kF 3 t := by
  obtain ⟨h3, h2, h1, h0⟩ := h
  intro t ht
  rcases (show t = 0 ∨ t = 1 ∨ t = 2 by omega) with rfl | rfl | rfl
  · exact h0
  · exact h1
  · exact h2
theorem u_cap {f : Nat → Int32} (h : ∀ t, t < 3 → f t = kF 3 t) (hs : f 3 = 32) : m_cap f := ⟨hs, h 2 (by decide), h 1 (by decide), h 0 (by decide)⟩
theorem s_cap {f : Nat → Int32} (h : m_cap f) : ∀ t, t < 3 → ¬ f t = 32 := by
  intro t ht
  rw [w_cap h t ht]
  rcases (show t = 0 ∨ t = 1 ∨ t = 2 by omega) with rfl | rfl | rfl
  · decide
  · decide
  · decide
def m_seek (f : Nat → Int32) : Prop := f 4 = 32 ∧ f 3 = 107 ∧ f 2 = 101 ∧ f 1 = 101 ∧ f 0 = 115
theorem h_seek {z f : Nat → Int32} {mw : Nat} (e : z 1 = nI mw) (h : mw ≤ 16) : (f_X7_has_seek (z, f) = 0 ∧ ¬ (5 ≤ mw ∧ m_seek f)) ∨ (f_X7_has_seek (z, f) = 1 ∧ 5 ≤ mw ∧ m_seek f) := by
  have q : f_X7_has_seek (z, f) = if 5 ≤ mw ∧ (f 4 = 32 ∧ f 3 = 107 ∧ f 2 = 101 ∧ f 1 = 101 ∧ f 0 = 115) then 1 else 0 := by
    rw [ite_an, ite_an, ite_an, ite_an, ite_an]
    exact ge_w (n := 5) e h (by decide)
  by_cases c : 5 ≤ mw ∧ m_seek f
  · exact Or.inr ⟨q.trans (if_pos c), c.1, c.2⟩
  · exact Or.inl ⟨q.trans (if_neg c), c⟩
theorem w_seek {f : Nat → Int32} (h : m_seek f) : ∀ t, t < 4 → f t = kF 4 t := by
  obtain ⟨h4, h3, h2, h1, h0⟩ := h
  intro t ht
  rcases (show t = 0 ∨ t = 1 ∨ t = 2 ∨ t = 3 by omega) with rfl | rfl | rfl | rfl
  · exact h0
  · exact h1
  · exact h2
  · exact h3
theorem u_seek {f : Nat → Int32} (h : ∀ t, t < 4 → f t = kF 4 t) (hs : f 4 = 32) : m_seek f := ⟨hs, h 3 (by decide), h 2 (by decide), h 1 (by decide), h 0 (by decide)⟩
theorem s_seek {f : Nat → Int32} (h : m_seek f) : ∀ t, t < 4 → ¬ f t = 32 := by
  intro t ht
  rw [w_seek h t ht]
  rcases (show t = 0 ∨ t = 1 ∨ t = 2 ∨ t = 3 by omega) with rfl | rfl | rfl | rfl
  · decide
  · decide
  · decide
  · decide
def m_fixed (f : Nat → Int32) : Prop := f 11 = 100 ∧ f 10 = 101 ∧ f 9 = 120 ∧ f 8 = 105 ∧ f 7 = 102
theorem h_fixed {z f : Nat → Int32} {mw : Nat} (e : z 1 = nI mw) (h : mw ≤ 16) : (f_X7_has_fixed (z, f) = 0 ∧ ¬ (12 ≤ mw ∧ m_fixed f)) ∨ (f_X7_has_fixed (z, f) = 1 ∧ 12 ≤ mw ∧ m_fixed f) := by
  have q : f_X7_has_fixed (z, f) = if 12 ≤ mw ∧ (f 11 = 100 ∧ f 10 = 101 ∧ f 9 = 120 ∧ f 8 = 105 ∧ f 7 = 102) then 1 else 0 := by
    rw [ite_an, ite_an, ite_an, ite_an, ite_an]
    exact ge_w (n := 12) e h (by decide)
  by_cases c : 12 ≤ mw ∧ m_fixed f
  · exact Or.inr ⟨q.trans (if_pos c), c.1, c.2⟩
  · exact Or.inl ⟨q.trans (if_neg c), c⟩
theorem w_fixed {f : Nat → Int32} (h : m_fixed f) : ∀ t, t < 5 → (fun t => f (6 + 1 + t)) t = kF 5 t := by
  obtain ⟨h4, h3, h2, h1, h0⟩ := h
  intro t ht
  rcases (show t = 0 ∨ t = 1 ∨ t = 2 ∨ t = 3 ∨ t = 4 by omega) with rfl | rfl | rfl | rfl | rfl
  · exact h0
  · exact h1
  · exact h2
  · exact h3
  · exact h4
theorem u_fixed {f : Nat → Int32} (h : ∀ t, t < 5 → (fun t => f (6 + 1 + t)) t = kF 5 t) : m_fixed f := ⟨h 4 (by decide), h 3 (by decide), h 2 (by decide), h 1 (by decide), h 0 (by decide)⟩
def m_rate (f : Nat → Int32) : Prop := f 10 = 101 ∧ f 9 = 116 ∧ f 8 = 97 ∧ f 7 = 114
theorem h_rate {z f : Nat → Int32} {mw : Nat} (e : z 1 = nI mw) (h : mw ≤ 16) : (f_X7_has_rate (z, f) = 0 ∧ ¬ (11 ≤ mw ∧ m_rate f)) ∨ (f_X7_has_rate (z, f) = 1 ∧ 11 ≤ mw ∧ m_rate f) := by
  have q : f_X7_has_rate (z, f) = if 11 ≤ mw ∧ (f 10 = 101 ∧ f 9 = 116 ∧ f 8 = 97 ∧ f 7 = 114) then 1 else 0 := by
    rw [ite_an, ite_an, ite_an, ite_an]
    exact ge_w (n := 11) e h (by decide)
  by_cases c : 11 ≤ mw ∧ m_rate f
  · exact Or.inr ⟨q.trans (if_pos c), c.1, c.2⟩
  · exact Or.inl ⟨q.trans (if_neg c), c⟩
theorem w_rate {f : Nat → Int32} (h : m_rate f) : ∀ t, t < 4 → (fun t => f (6 + 1 + t)) t = kF 6 t := by
  obtain ⟨h3, h2, h1, h0⟩ := h
  intro t ht
  rcases (show t = 0 ∨ t = 1 ∨ t = 2 ∨ t = 3 by omega) with rfl | rfl | rfl | rfl
  · exact h0
  · exact h1
  · exact h2
  · exact h3
theorem u_rate {f : Nat → Int32} (h : ∀ t, t < 4 → (fun t => f (6 + 1 + t)) t = kF 6 t) : m_rate f := ⟨h 3 (by decide), h 2 (by decide), h 1 (by decide), h 0 (by decide)⟩
def m_buffer (f : Nat → Int32) : Prop := f 12 = 114 ∧ f 11 = 101 ∧ f 10 = 102 ∧ f 9 = 102 ∧ f 8 = 117 ∧ f 7 = 98
theorem h_buffer {z f : Nat → Int32} {mw : Nat} (e : z 1 = nI mw) (h : mw ≤ 16) : (f_X7_has_buffer (z, f) = 0 ∧ ¬ (13 ≤ mw ∧ m_buffer f)) ∨ (f_X7_has_buffer (z, f) = 1 ∧ 13 ≤ mw ∧ m_buffer f) := by
  have q : f_X7_has_buffer (z, f) = if 13 ≤ mw ∧ (f 12 = 114 ∧ f 11 = 101 ∧ f 10 = 102 ∧ f 9 = 102 ∧ f 8 = 117 ∧ f 7 = 98) then 1 else 0 := by
    rw [ite_an, ite_an, ite_an, ite_an, ite_an, ite_an]
    exact ge_w (n := 13) e h (by decide)
  by_cases c : 13 ≤ mw ∧ m_buffer f
  · exact Or.inr ⟨q.trans (if_pos c), c.1, c.2⟩
  · exact Or.inl ⟨q.trans (if_neg c), c⟩
theorem w_buffer {f : Nat → Int32} (h : m_buffer f) : ∀ t, t < 6 → (fun t => f (6 + 1 + t)) t = kF 7 t := by
  obtain ⟨h5, h4, h3, h2, h1, h0⟩ := h
  intro t ht
  rcases (show t = 0 ∨ t = 1 ∨ t = 2 ∨ t = 3 ∨ t = 4 ∨ t = 5 by omega) with rfl | rfl | rfl | rfl | rfl | rfl
  · exact h0
  · exact h1
  · exact h2
  · exact h3
  · exact h4
  · exact h5
theorem u_buffer {f : Nat → Int32} (h : ∀ t, t < 6 → (fun t => f (6 + 1 + t)) t = kF 7 t) : m_buffer f := ⟨h 5 (by decide), h 4 (by decide), h 3 (by decide), h 2 (by decide), h 1 (by decide), h 0 (by decide)⟩
def m_hybrid (f : Nat → Int32) : Prop := f 12 = 100 ∧ f 11 = 105 ∧ f 10 = 114 ∧ f 9 = 98 ∧ f 8 = 121 ∧ f 7 = 104
theorem h_hybrid {z f : Nat → Int32} {mw : Nat} (e : z 1 = nI mw) (h : mw ≤ 16) : (f_X7_has_hybrid (z, f) = 0 ∧ ¬ (13 ≤ mw ∧ m_hybrid f)) ∨ (f_X7_has_hybrid (z, f) = 1 ∧ 13 ≤ mw ∧ m_hybrid f) := by
  have q : f_X7_has_hybrid (z, f) = if 13 ≤ mw ∧ (f 12 = 100 ∧ f 11 = 105 ∧ f 10 = 114 ∧ f 9 = 98 ∧ f 8 = 121 ∧ f 7 = 104) then 1 else 0 := by
    rw [ite_an, ite_an, ite_an, ite_an, ite_an, ite_an]
    exact ge_w (n := 13) e h (by decide)
  by_cases c : 13 ≤ mw ∧ m_hybrid f
  · exact Or.inr ⟨q.trans (if_pos c), c.1, c.2⟩
  · exact Or.inl ⟨q.trans (if_neg c), c⟩
theorem w_hybrid {f : Nat → Int32} (h : m_hybrid f) : ∀ t, t < 6 → (fun t => f (6 + 1 + t)) t = kF 8 t := by
  obtain ⟨h5, h4, h3, h2, h1, h0⟩ := h
  intro t ht
  rcases (show t = 0 ∨ t = 1 ∨ t = 2 ∨ t = 3 ∨ t = 4 ∨ t = 5 by omega) with rfl | rfl | rfl | rfl | rfl | rfl
  · exact h0
  · exact h1
  · exact h2
  · exact h3
  · exact h4
  · exact h5
theorem u_hybrid {f : Nat → Int32} (h : ∀ t, t < 6 → (fun t => f (6 + 1 + t)) t = kF 8 t) : m_hybrid f := ⟨h 5 (by decide), h 4 (by decide), h 3 (by decide), h 2 (by decide), h 1 (by decide), h 0 (by decide)⟩
