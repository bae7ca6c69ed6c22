theorem upd_id {f : Nat → Int32} {i : Nat} : upd f i (f i + 0) = f := by
  funext j
  by_cases c : j = i
  · subst c
    unfold upd
    rw [if_pos rfl, Int32.add_zero]
  · exact upd_o c
theorem ready_rel {k : Cf} {g : Ss} {v : Fn} (hR : Rel g v) : Rel (f_X2_playIfReady k g) (f_X7_waits_c49 k v) := by
  have e1 : g.1 1 = v 1 := hR.1 1 (Or.inl (by decide))
  have e5 : g.1 5 = v 5 := hR.1 5 (Or.inl (by decide))
  have hs := hR.set 3 (Or.inl (by decide)) (x := 1) (y := 1) rfl
  unfold f_X2_playIfReady f_X7_waits_c49 f_X2_hasNextSegment
  rw [e1, e5]
  by_cases a : k.1 5 ≤ v 1
  · rw [if_pos a, if_pos a]
    exact hs
  · rw [if_neg a, if_neg a]
    by_cases b : k.1 0 ≤ v 5
    · rw [if_pos b, if_pos rfl, if_neg (show ¬ v 5 < k.1 0 by rw [fa_lt]; rw [fa_le] at b; omega)]
      by_cases c : v 1 ≤ 0
      · rw [if_pos c, if_pos c]
        exact hR
      · rw [if_neg c, if_neg c]
        exact hs
    · rw [if_neg b, if_neg (show ¬ (1 : Int32) = 0 by decide), if_pos (show v 5 < k.1 0 by rw [fa_lt]; rw [fa_le] at b; omega)]
      exact hR
theorem waits0_rel {k : Cf} {g : Ss} {v : Fn} (hR : Rel g v) (h3 : v 3 = 0) : Rel (f_X2_playIfReady k (upd (g.1) 19 ((g.1 19) + (1 : Int32)), g.2.1, g.2.2)) (f_X7_waits k v) := by
  unfold f_X7_waits f_X7_waits_c22 f_X7_waits_c47
  rw [if_pos h3, if_neg (by rw [h3]; decide), upd_id]
  exact ready_rel (hR.set 19 (Or.inr (by decide)) (by rw [hR.1 19 (Or.inr (by decide))]))
theorem waits2_rel {k : Cf} {g : Ss} {v : Fn} (hR : Rel g v) (h3 : v 3 = 2) : Rel (f_X2_playIfReady k (upd (g.1) 18 ((g.1 18) + (1 : Int32)), g.2.1, g.2.2)) (f_X7_waits k v) := by
  unfold f_X7_waits f_X7_waits_c22 f_X7_waits_c47
  rw [if_neg (by rw [h3]; decide), if_pos h3, upd_id]
  exact ready_rel (hR.set 18 (Or.inr (by decide)) (by rw [hR.1 18 (Or.inr (by decide))]))
