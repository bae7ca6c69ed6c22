theorem cs_eq {k : Cf} {g : Ss} {v : Fn} (hR : Rel g v) : f_X2_canStartDownload k g = (if v 6 = 0 then (if k.1 0 ≤ v 5 then (0 : Int32) else (if k.1 4 < v 1 + k.1 1 then (0 : Int32) else 1)) else 0) := by
  unfold f_X2_canStartDownload f_X2_hasNextSegment
  rw [hR.1 6 (Or.inl (by decide)), hR.1 5 (Or.inl (by decide)), hR.1 1 (Or.inl (by decide))]
  by_cases a : k.1 0 ≤ v 5
  · rw [if_pos a, if_pos rfl, if_pos a]
  · rw [if_neg a, if_neg (show ¬ (1 : Int32) = 0 by decide), if_neg a]
theorem dl_o {f : Nat → Int32} {z a b c d : Int32} {j : Nat} (h : j ≤ 6 ∨ 11 ≤ j) : upd (upd (upd (upd (upd f 6 z) 7 a) 8 b) 9 c) 10 d j = upd f 6 z j := by
  rw [upd_o (show ¬ j = 10 by omega), upd_o (show ¬ j = 9 by omega), upd_o (show ¬ j = 8 by omega), upd_o (show ¬ j = 7 by omega)]
theorem Rel.dl {g : Ss} {v : Fn} (h : Rel g v) (z a b c d : Int32) : Rel (upd (upd (upd (upd (upd g.1 6 z) 7 a) 8 b) 9 c) 10 d, g.2.1, g.2.2) (upd (upd (upd (upd (upd v 6 z) 7 a) 8 b) 9 c) 10 d) := by
  obtain ⟨h1, h2, h3, h4, h5⟩ := h
  refine ⟨?_, ?_, ?_, ?_, ?_⟩
  · intro j hj
    show upd (upd (upd (upd (upd g.1 6 z) 7 a) 8 b) 9 c) 10 d j = _
    rw [dl_o (f := g.1) (by omega), dl_o (f := v) (by omega)]
    by_cases e : j = 6
    · unfold upd
      rw [if_pos e, if_pos e]
    · rw [upd_o e, upd_o e]
      exact h1 j hj
  · intro _
    exact ⟨rfl, rfl, rfl, rfl⟩
  · exact h3
  · intro j hj hlt
    show g.2.1 j = upd (upd (upd (upd (upd v 6 z) 7 a) 8 b) 9 c) 10 d (12 + j)
    rw [upd_o (by omega), upd_o (by omega), upd_o (by omega), upd_o (by omega), upd_o (by omega)]
    exact h4 j hj hlt
  · intro j hj
    show g.2.2 j = upd (upd (upd (upd (upd v 6 z) 7 a) 8 b) 9 c) 10 d (22 + j)
    rw [upd_o (by omega), upd_o (by omega), upd_o (by omega), upd_o (by omega), upd_o (by omega)]
    exact h5 j hj
