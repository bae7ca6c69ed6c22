theorem start_rel {k : Cf} {g : Ss} {v : Fn} {T : Int} {p : Int32} (hk : KOK k) (hl : 1 ≤ (k.1 2).toInt) (hR : Rel g v) (hN : NOK T k v) (hp : btw p 0 3) : Rel (if f_X2_canStartDownload k g = 0 then g else (upd (upd (upd (upd (upd (g.1) 6 ((f_X1_start g (f_X2_chooseLevel k g p (k.1 10)) (f_X5_sizeOf k (f_X2_chooseLevel k g p (k.1 10)) (g.1 5))).1 6)) 7 ((f_X1_start g (f_X2_chooseLevel k g p (k.1 10)) (f_X5_sizeOf k (f_X2_chooseLevel k g p (k.1 10)) (g.1 5))).1 7)) 8 ((f_X1_start g (f_X2_chooseLevel k g p (k.1 10)) (f_X5_sizeOf k (f_X2_chooseLevel k g p (k.1 10)) (g.1 5))).1 8)) 9 ((f_X1_start g (f_X2_chooseLevel k g p (k.1 10)) (f_X5_sizeOf k (f_X2_chooseLevel k g p (k.1 10)) (g.1 5))).1 9)) 10 ((f_X1_start g (f_X2_chooseLevel k g p (k.1 10)) (f_X5_sizeOf k (f_X2_chooseLevel k g p (k.1 10)) (g.1 5))).1 10), g.2.1, g.2.2)) (f_X7_startsDownload k v p) := by
  obtain ⟨n1, n3, n31, n4, n5, n6, n7, n11, n12, n13, n14, n15⟩ := hN
  rw [cs_eq hR]
  unfold f_X7_startsDownload
  by_cases a : v 6 = 0
  · rw [if_pos a, if_pos a]
    by_cases b : k.1 0 ≤ v 5
    · rw [if_pos b, if_pos rfl, if_pos b]
      exact hR
    · rw [if_neg b, if_neg b]
      by_cases c : k.1 4 < v 1 + k.1 1
      · rw [if_pos c, if_pos rfl, if_pos c]
        exact hR
      · rw [if_neg c, if_neg (show ¬ (1 : Int32) = 0 by decide), if_neg c]
        have hc := chosen_eq (p := p) hk hl hR n1 n11 n12 n13 n14 hp
        have hi := ch_in hk hl n1 n15 p
        have hh := hi_0 hk hl
        rw [chosen_u, hc, hR.1 5 (Or.inl (by decide)), size_eq hk hi.1 (by omega) n5.1 (by rw [fa_le] at b; omega)]
        exact hR.dl 1 _ _ 0 0
  · rw [if_neg a, if_pos rfl, if_neg a]
    exact hR
