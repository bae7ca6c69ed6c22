theorem mn_eq {x y : Int32} : (if x < y then x else y) = if x ≤ y then x else y := by
  by_cases a : x < y
  · rw [if_pos a, if_pos (by rw [fa_lt] at a; rw [fa_le]; omega)]
  · rw [if_neg a]
    by_cases b : x ≤ y
    · rw [if_pos b]
      exact Int32.toInt_inj.mp (by rw [fa_lt] at a; rw [fa_le] at b; omega)
    · rw [if_neg b]
theorem mn_sw {x y : Int32} : (if x < y then x else y) = if y ≤ x then y else x := by
  by_cases a : x < y
  · rw [if_pos a, if_neg (by rw [fa_lt] at a; rw [fa_le]; omega)]
  · rw [if_neg a, if_pos (by rw [fa_lt] at a; rw [fa_le]; omega)]
theorem both_eq {k : Cf} {g : Ss} {v : Fn} (hb : f_X2_levelByBuffer k g (f_X7_highest k) = f_X7_levelByBuffer k v) (hr : f_X2_levelByRate k g (f_X7_highest k) = f_X7_levelByRate k v) (h15 : g.1 15 = v 15) : f_X2_levelByBoth k g (f_X7_highest k) = f_X7_levelOfBoth k v := by
  unfold f_X2_levelByBoth f_X7_levelOfBoth
  rw [hb, hr, h15, mn_eq]
  have e : ∀ z : Int32, (if v 15 = (-6 : Int32) then z else (if (v 15 + (1 : Int32)) < z then (v 15 + (1 : Int32)) else z)) = f_X7_levelOfBoth_c22 v z := by
    intro z
    unfold f_X7_levelOfBoth_c22
    rw [mn_sw]
  rw [e]
  by_cases a : f_X7_levelByBuffer k v ≤ f_X7_levelByRate k v
  · rw [if_pos a, if_pos a]
  · rw [if_neg a, if_neg a]
theorem chosen_eq {k : Cf} {g : Ss} {v : Fn} {T : Int} {p : Int32} (hk : KOK k) (hl : 1 ≤ (k.1 2).toInt) (hR : Rel g v) (h1 : btw (v 1) 0 60000) (h11 : btw (v 11) 0 T) (h12 : btw (v 12) 0 9000) (h13 : btw (v 13) 0 9000) (h14 : btw (v 14) 0 9000) (hp : btw p 0 3) : f_X2_chooseLevel k g p (k.1 10) = f_X7_chosen k v p := by
  have hb := bufL_eq (g := g) hk h1 (hR.1 1 (Or.inl (by decide)))
  have hr := rateL_eq hk hl hR h11 h12 h13 h14
  unfold f_X2_chooseLevel f_X7_chosen
  rw [hi_eq, hr, hb, both_eq hb hr (hR.1 15 (Or.inr (by decide)))]
  obtain ⟨n, rfl, -, h3, -⟩ := nat_of hp (Int.le_refl 0)
  rcases (show n = 0 ∨ n = 1 ∨ n = 2 ∨ n = 3 by omega) with rfl | rfl | rfl | rfl
  · rw [if_neg (show ¬ nI 0 = 1 by decide), if_neg (show ¬ nI 0 = 2 by decide), if_neg (show ¬ nI 0 = 3 by decide), if_pos (show nI 0 = 0 by decide)]
  · rw [if_pos (show nI 1 = 1 by decide), if_neg (show ¬ nI 1 = 0 by decide), if_pos (show nI 1 = 1 by decide)]
  · rw [if_neg (show ¬ nI 2 = 1 by decide), if_pos (show nI 2 = 2 by decide), if_neg (show ¬ nI 2 = 0 by decide), if_neg (show ¬ nI 2 = 1 by decide), if_pos (show nI 2 = 2 by decide)]
  · rw [if_neg (show ¬ nI 3 = 1 by decide), if_neg (show ¬ nI 3 = 2 by decide), if_pos (show nI 3 = 3 by decide), if_neg (show ¬ nI 3 = 0 by decide), if_neg (show ¬ nI 3 = 1 by decide), if_neg (show ¬ nI 3 = 2 by decide)]
theorem es_u {v : Fn} : f_X7_estimate (upd v 6 1) = f_X7_estimate v := rfl
theorem rl_u {k : Cf} {v : Fn} : ∀ (n : Nat) (x : Int32) (j : Nat), f_X7_levelByRate_l9 k (upd v 6 1) n x j = f_X7_levelByRate_l9 k v n x j
  | 0, _, _ => rfl
  | n + 1, x, j => by rw [f_X7_levelByRate_l9, f_X7_levelByRate_l9, es_u, rl_u n, rl_u n]
theorem chosen_u {k : Cf} {v : Fn} {p : Int32} : f_X7_chosen k (upd v 6 1) p = f_X7_chosen k v p := by
  have e1 : f_X7_levelByRate k (upd v 6 1) = f_X7_levelByRate k v := rl_u 5 0 1
  have e2 : f_X7_levelByBuffer k (upd v 6 1) = f_X7_levelByBuffer k v := rfl
  have e3 : f_X7_levelOfBoth k (upd v 6 1) = f_X7_levelOfBoth k v := by
    unfold f_X7_levelOfBoth
    rw [e1, e2]
    rfl
  unfold f_X7_chosen
  rw [e1, e2, e3]
