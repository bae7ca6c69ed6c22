theorem upd_o {f : Nat → Int32} {i j : Nat} {x : Int32} (h : ¬ j = i) : upd f i x j = f j := by
  unfold upd
  rw [if_neg h]
theorem Rel.set {g : Ss} {v : Fn} (h : Rel g v) (i : Nat) (hi : i ≤ 5 ∨ (15 ≤ i ∧ i ≤ 20)) {x y : Int32} (e : x = y) : Rel (upd g.1 i x, g.2.1, g.2.2) (upd v i y) := by
  subst e
  obtain ⟨h1, h2, h3, h4, h5⟩ := h
  refine ⟨?_, ?_, ?_, ?_, ?_⟩
  · intro j hj
    show upd g.1 i x j = upd v i x j
    by_cases c : j = i
    · unfold upd
      rw [if_pos c, if_pos c]
    · rw [upd_o c, upd_o c]
      exact h1 j hj
  · intro h6
    rw [upd_o (by omega)] at h6
    show upd g.1 i x 7 = upd v i x 7 ∧ upd g.1 i x 8 = upd v i x 8 ∧ upd g.1 i x 9 = upd v i x 9 ∧ upd g.1 i x 10 = upd v i x 10
    rw [upd_o (by omega), upd_o (by omega), upd_o (by omega), upd_o (by omega), upd_o (by omega), upd_o (by omega), upd_o (by omega), upd_o (by omega)]
    exact h2 h6
  · show upd g.1 i x 11 = if 3 ≤ upd v i x 11 then 3 else upd v i x 11
    rw [upd_o (by omega), upd_o (by omega)]
    exact h3
  · intro j hj hlt
    rw [upd_o (by omega)] at hlt
    show g.2.1 j = upd v i x (12 + j)
    rw [upd_o (by omega)]
    exact h4 j hj hlt
  · intro j hj
    show g.2.2 j = upd v i x (22 + j)
    rw [upd_o (by omega)]
    exact h5 j hj
