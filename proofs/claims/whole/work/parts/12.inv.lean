/-! ===== what holds of the configuration, and of the reference's session (T: the time, as a number) ===== -/
def btw (x : Int32) (a b : Int) : Prop := a ≤ x.toInt ∧ x.toInt ≤ b
def KOK (k : Cf) : Prop :=
  btw (k.1 0) 1 30 ∧ btw (k.1 1) 100 5000 ∧ btw (k.1 2) 0 5 ∧ btw (k.1 3) 0 12 ∧ btw (k.1 4) 100 60000 ∧ btw (k.1 5) 1 60000 ∧ btw (k.1 6) 1 200 ∧ btw (k.1 7) 0 60000 ∧ btw (k.1 8) 1 60000 ∧ btw (k.1 10) 0 4 ∧
  (∀ i, i < 5 → btw (k.2.1 i) 0 9000 ∧ ((i : Int) < (k.1 2).toInt → 1 ≤ (k.2.1 i).toInt)) ∧ (∀ i, i < 30 → btw (k.2.2.1 i) 0 300) ∧ (∀ i, i < 12 → btw (k.2.2.2.2 i) 0 9000)
def NOK (T : Int) (k : Cf) (v : Fn) : Prop :=
  btw (v 1) 0 60000 ∧ btw (v 3) 0 3 ∧ (v 3 = 1 → 1 ≤ (v 1).toInt) ∧ btw (v 4) 0 1 ∧ btw (v 5) 0 (k.1 0).toInt ∧ btw (v 6) 0 1 ∧
  (v 6 = 1 → (v 5).toInt < (k.1 0).toInt ∧ 0 ≤ (v 7).toInt ∧ (v 7).toInt < (k.1 2).toInt ∧ (v 1).toInt + (k.1 1).toInt ≤ 60000 ∧ btw (v 8) 0 135000000 ∧ 0 ≤ (v 9).toInt ∧ (v 9).toInt ≤ 9000 * (v 10).toInt ∧ (v 9 = 0 ∨ (v 9).toInt < (v 8).toInt) ∧ btw (v 10) 0 T) ∧
  btw (v 11) 0 T ∧ btw (v 12) 0 9000 ∧ btw (v 13) 0 9000 ∧ btw (v 14) 0 9000 ∧ (v 15 = -6 ∨ btw (v 15) 0 4)
def NI (k : Cf) (v : Fn) (j : Nat) : Prop := NOK (j : Int) k v ∧ v 0 = nI j
def PR (k : Cf) (v : Fn) : Prop := KOK k ∧ 1 ≤ (k.1 2).toInt ∧ ∃ j : Nat, j < 1000000000 ∧ NI k v j
theorem btw_in {x : Int32} {a b : Int} {n : Nat} (h : btw x a b) (ha : 0 ≤ a) (hb : b < n) : vp_in x n := vp_in_iff.mpr ⟨by have := h.1; omega, by have := h.2; omega⟩
theorem off_cl {o j : Nat} (h : o + j < 2 ^ 31) : (nI o + nI j).toNatClampNeg = o + j := by rw [nI_add]; exact nI_clamp h
theorem off_in {o j N : Nat} (h : o + j < N) (hN : N < 2 ^ 31) : vp_in (nI o + nI j) N := by rw [nI_add]; exact vp_in_nI h hN
theorem in_pred {x : Int32} {n : Nat} (hn : n < 2 ^ 31) (h : btw x 0 n) (h0 : ¬ x = 0) : vp_in (x - 1) n := by
  rw [fa_eq, i32_0] at h0
  have h1 := h.1
  have h2 := h.2
  rw [vp_in_iff, fb_subI (by rw [i32_1]; omega) (by rw [i32_1]; omega), i32_1]
  omega
theorem in_ne {x c : Int32} {n : Nat} (hc : c.toInt = n) (h : btw x 0 n) (h0 : ¬ x = c) : vp_in x n := by
  rw [fa_eq, hc] at h0
  have h1 := h.1
  have h2 := h.2
  rw [vp_in_iff]
  omega
