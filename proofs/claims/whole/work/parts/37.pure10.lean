theorem plays_rel {k : Cf} {g : Ss} {v : Fn} (hR : Rel g v) (h1 : btw (v 1) 1 60000) : Rel (f_X2_playMillisecond k g) (f_X7_plays k v) := by
  have e1 : g.1 1 = v 1 := hR.1 1 (Or.inl (by decide))
  have e2 : g.1 2 = v 2 := hR.1 2 (Or.inl (by decide))
  have e5 : g.1 5 = v 5 := hR.1 5 (Or.inl (by decide))
  have e17 : g.1 17 = v 17 := hR.1 17 (Or.inr (by decide))
  have hs := (hR.set 1 (Or.inl (by decide)) (x := v 1 - 1) (y := v 1 - 1) rfl).set 2 (Or.inl (by decide)) (x := v 2 + 1) (y := v 2 + 1) rfl
  have es : (v 1 - 1).toInt = (v 1).toInt - 1 := by
    obtain ⟨a1, a2⟩ := h1
    rw [fb_subI (by rw [i32_1]; omega) (by rw [i32_1]; omega), i32_1]
  have hq : (v 1 - (1 : Int32) ≤ 0) ↔ (v 1 - (1 : Int32) = 0) := by
    obtain ⟨a1, a2⟩ := h1
    rw [fa_le, fa_eq, i32_0, es]
    omega
  unfold f_X2_playMillisecond f_X7_plays f_X2_hasNextSegment
  rw [e1, e2, e17]
  by_cases a : v 1 - (1 : Int32) = 0
  · rw [if_pos (hq.mpr a), if_pos a]
    have e5' : (upd (upd g.1 1 (v 1 - 1)) 2 (v 2 + 1)) 5 = v 5 := e5
    by_cases b : k.1 0 ≤ v 5
    · rw [if_pos (show k.1 0 ≤ (upd (upd g.1 1 (v 1 - 1)) 2 (v 2 + 1)) 5 by rw [e5']; exact b), if_pos rfl, if_neg (show ¬ v 5 < k.1 0 by rw [fa_lt]; rw [fa_le] at b; omega)]
      have e := upd_id (f := upd (upd (upd v 1 (v 1 - 1)) 2 (v 2 + 1)) 3 3) (i := 17)
      rw [show upd (upd (upd (upd v 1 (v 1 - 1)) 2 (v 2 + 1)) 3 3) 17 (v 17 + 0) = upd (upd (upd v 1 (v 1 - 1)) 2 (v 2 + 1)) 3 3 from e]
      exact hs.set 3 (Or.inl (by decide)) rfl
    · rw [if_neg (show ¬ k.1 0 ≤ (upd (upd g.1 1 (v 1 - 1)) 2 (v 2 + 1)) 5 by rw [e5']; exact b), if_neg (show ¬ (1 : Int32) = 0 by decide), if_pos (show v 5 < k.1 0 by rw [fa_lt]; rw [fa_le] at b; omega)]
      exact (hs.set 3 (Or.inl (by decide)) (x := 2) (y := 2) rfl).set 17 (Or.inr (by decide)) rfl
  · rw [if_neg (fun z => a (hq.mp z)), if_neg a]
    exact hs
theorem play_rel {k : Cf} {g : Ss} {v : Fn} (hR : Rel g v) (h1 : btw (v 1) 0 60000) (h3 : btw (v 3) 0 3) (h31 : v 3 = 1 → 1 ≤ (v 1).toInt) : Rel (f_X2_play k g) (if v 3 = (1 : Int32) then f_X7_plays k v else if v 3 = (3 : Int32) then v else f_X7_waits k v) := by
  unfold f_X2_play
  rw [hR.1 3 (Or.inl (by decide))]
  obtain ⟨n, en, -, hn, -⟩ := nat_of h3 (Int.le_refl 0)
  rcases (show n = 0 ∨ n = 1 ∨ n = 2 ∨ n = 3 by omega) with rfl | rfl | rfl | rfl
  · have e : v 3 = 0 := en
    rw [if_pos e, if_neg (by rw [e]; decide), if_neg (by rw [e]; decide)]
    exact waits0_rel hR e
  · have e : v 3 = 1 := en
    rw [if_neg (show ¬ v 3 = 0 by rw [e]; decide), if_pos e, if_pos e]
    exact plays_rel hR ⟨h31 e, h1.2⟩
  · have e : v 3 = 2 := en
    rw [if_neg (show ¬ v 3 = 0 by rw [e]; decide), if_neg (show ¬ v 3 = 1 by rw [e]; decide), if_pos e, if_neg (show ¬ v 3 = 1 by rw [e]; decide), if_neg (show ¬ v 3 = 3 by rw [e]; decide)]
    exact waits2_rel hR e
  · have e : v 3 = 3 := en
    rw [if_neg (show ¬ v 3 = 0 by rw [e]; decide), if_neg (show ¬ v 3 = 1 by rw [e]; decide), if_neg (show ¬ v 3 = 2 by rw [e]; decide), if_neg (show ¬ v 3 = 1 by rw [e]; decide), if_pos e]
    exact hR
