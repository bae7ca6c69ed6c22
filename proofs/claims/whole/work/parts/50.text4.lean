theorem rw6 {k : Cf} {g : Ss} {lm : Nat} {f f2 : Nat → Int32} (h : m_policy f) : f_X6_runWordWithArgument k g 6 f lm f2 = ((f_X6_changePolicy k (f_X6_policyNamed lm f2)).1, (f_X6_changePolicy k (f_X6_policyNamed lm f2)).2, g) := by
  unfold f_X6_runWordWithArgument
  rw [seq_y (m := 6) rfl (w_policy h), if_neg (show ¬ (1 : Int32) = 0 by decide)]
theorem rw3 {k : Cf} {g : Ss} {lm : Nat} {f f2 : Nat → Int32} (h : m_cap f) : f_X6_runWordWithArgument k g 3 f lm f2 = ((f_X6_changeCap k (f_X6_numberIn lm f2)).1, (f_X6_changeCap k (f_X6_numberIn lm f2)).2, g) := by
  unfold f_X6_runWordWithArgument
  rw [seq_n (m := 6) (fun c => absurd c.1 (by decide)), if_pos rfl, seq_y (m := 3) rfl (w_cap h), if_neg (show ¬ (1 : Int32) = 0 by decide)]
theorem rw4 {k : Cf} {g : Ss} {lm : Nat} {f f2 : Nat → Int32} (h : m_seek f) : f_X6_runWordWithArgument k g 4 f lm f2 = ((f_X6_seek k g (f_X6_numberIn lm f2)).1, k, (f_X6_seek k g (f_X6_numberIn lm f2)).2) := by
  unfold f_X6_runWordWithArgument
  rw [seq_n (m := 6) (fun c => absurd c.1 (by decide)), if_pos rfl, seq_n (m := 3) (fun c => absurd c.1 (by decide)), if_pos rfl, seq_y (m := 4) rfl (w_seek h), if_neg (show ¬ (1 : Int32) = 0 by decide)]
theorem rw0 {k : Cf} {g : Ss} {i lm mw : Nat} {f f2 : Nat → Int32} (hi : i < mw) (hs : f i = 32) (h1 : ¬ (7 ≤ mw ∧ m_policy f)) (h2 : ¬ (4 ≤ mw ∧ m_cap f)) (h3 : ¬ (5 ≤ mw ∧ m_seek f)) : f_X6_runWordWithArgument k g i f lm f2 = (-5, k, g) := by
  unfold f_X6_runWordWithArgument
  rw [seq_n (m := 6) (fun c => by obtain ⟨rfl, d⟩ := c; exact h1 ⟨hi, u_policy d hs⟩), if_pos rfl, seq_n (m := 3) (fun c => by obtain ⟨rfl, d⟩ := c; exact h2 ⟨hi, u_cap d hs⟩), if_pos rfl, seq_n (m := 4) (fun c => by obtain ⟨rfl, d⟩ := c; exact h3 ⟨hi, u_seek d hs⟩), if_pos rfl]
theorem run_rel {k : Cf} {g : Ss} {v : Fn} {y : Ky} {mw t : Nat} (hk : KOK k) (h9 : btw (k.1 9) 0 3) (hR : Rel g v) (hN : NI k v t) (e : y.1 0 = nI mw) (h16 : mw ≤ 16) : GOOD t (upd (upd y.1 1 (y.1 0)) 0 0, y.2) (f_X6_runCommand k g mw y.2) (f_X7_runCommand k v y) := by
  have e' : (upd (upd y.1 1 (y.1 0)) 0 0) 1 = nI mw := e
  unfold f_X7_runCommand
  rcases h_policy (f := y.2) e' h16 with ⟨a1, b1⟩ | ⟨a1, c1, b1⟩
  · rw [a1, if_pos rfl]
    rcases h_cap (f := y.2) e' h16 with ⟨a2, b2⟩ | ⟨a2, c2, b2⟩
    · rw [a2, if_pos rfl]
      rcases h_seek (f := y.2) e' h16 with ⟨a3, b3⟩ | ⟨a3, c3, b3⟩
      · rw [a3, if_pos rfl]
        rcases h_pause (f := y.2) e' h16 with ⟨a4, b4⟩ | ⟨a4, c4, b4⟩
        · rw [a4, if_pos rfl, ite_self]
          rcases h_play (f := y.2) e' h16 with ⟨a5, b5⟩ | ⟨a5, c5, b5⟩
          · rw [a5, if_pos rfl, ite_self]
            have q : f_X6_runCommand k g mw y.2 = (-5, k, g) := by
              by_cases s : (0 : Int32) ≤ spc y.2 mw 0
              · obtain ⟨i, -, i2, i3, i4, -⟩ := spc_fst mw 0 s
                rw [rc_p (lm := mw - (i + 1)) i3 (by omega) (by omega)]
                exact rw0 (by omega) i4 b1 b2 b3
              · rw [rc_w s]
                unfold f_X6_runWord
                rw [seq_n (m := 5) (fun c => by obtain ⟨rfl, d⟩ := c; exact b4 ⟨Nat.le_refl _, u_pause d⟩), if_pos rfl, seq_n (m := 4) (fun c => by obtain ⟨rfl, d⟩ := c; exact b5 ⟨Nat.le_refl _, u_play d⟩), if_pos rfl]
            rw [q]
            exact ⟨rfl, rfl, hk, h9, hR, hN, rfl⟩
          · rw [a5, if_neg (show ¬ (1 : Int32) = 0 by decide)]
            by_cases m4 : mw = 4
            · rw [if_pos (show y.1 0 = 4 by rw [e, m4]; decide)]
              have q : f_X6_runCommand k g mw y.2 = ((f_X6_changePause0 g).1, k, (f_X6_changePause0 g).2) := by
                rw [rc_w (spc_none mw 0 (fun t _ ht => s_play b5 t (by omega)))]
                unfold f_X6_runWord
                rw [seq_n (m := 5) (fun c => absurd c.1 (by omega)), if_pos rfl, seq_y (m := 4) m4 (fun t ht => w_play b5 t (by omega)), if_neg (show ¬ (1 : Int32) = 0 by decide)]
              obtain ⟨p1, p2, p3⟩ := pause0 hR hN
              rw [q]
              exact ⟨p1, rfl, hk, h9, p2, p3, rfl⟩
            · rw [if_neg (show ¬ y.1 0 = 4 by rw [e]; exact nI_ne (b := 4) m4 (by omega) (by decide))]
              have q : f_X6_runCommand k g mw y.2 = (-5, k, g) := by
                by_cases s : (0 : Int32) ≤ spc y.2 mw 0
                · obtain ⟨i, -, i2, i3, i4, -⟩ := spc_fst mw 0 s
                  rw [rc_p (lm := mw - (i + 1)) i3 (by omega) (by omega)]
                  exact rw0 (by omega) i4 b1 b2 b3
                · rw [rc_w s]
                  unfold f_X6_runWord
                  rw [seq_n (m := 5) (fun c => by obtain ⟨rfl, d⟩ := c; exact b4 ⟨Nat.le_refl _, u_pause d⟩), if_pos rfl, seq_n (m := 4) (fun c => m4 c.1), if_pos rfl]
              rw [q]
              exact ⟨rfl, rfl, hk, h9, hR, hN, rfl⟩
        · rw [a4, if_neg (show ¬ (1 : Int32) = 0 by decide)]
          by_cases m5 : mw = 5
          · rw [if_pos (show y.1 0 = 5 by rw [e, m5]; decide)]
            have q : f_X6_runCommand k g mw y.2 = ((f_X6_changePause1 g).1, k, (f_X6_changePause1 g).2) := by
              rw [rc_w (spc_none mw 0 (fun t _ ht => s_pause b4 t (by omega)))]
              unfold f_X6_runWord
              rw [seq_y (m := 5) m5 (fun t ht => w_pause b4 t (by omega)), if_neg (show ¬ (1 : Int32) = 0 by decide)]
            obtain ⟨p1, p2, p3⟩ := pause1 hR hN
            rw [q]
            exact ⟨p1, rfl, hk, h9, p2, p3, rfl⟩
          · rw [if_neg (show ¬ y.1 0 = 5 by rw [e]; exact nI_ne (b := 5) m5 (by omega) (by decide)), if_neg (show ¬ y.1 0 = 4 by rw [e]; exact nI_ne (b := 4) (by omega) (by omega) (by decide))]
            have q : f_X6_runCommand k g mw y.2 = (-5, k, g) := by
              by_cases s : (0 : Int32) ≤ spc y.2 mw 0
              · obtain ⟨i, -, i2, i3, i4, -⟩ := spc_fst mw 0 s
                rw [rc_p (lm := mw - (i + 1)) i3 (by omega) (by omega)]
                exact rw0 (by omega) i4 b1 b2 b3
              · rw [rc_w s]
                unfold f_X6_runWord
                rw [seq_n (m := 5) (fun c => m5 c.1), if_pos rfl, seq_n (m := 4) (fun c => absurd c.1 (by omega)), if_pos rfl]
            rw [q]
            exact ⟨rfl, rfl, hk, h9, hR, hN, rfl⟩
      · rw [a3, if_neg (show ¬ (1 : Int32) = 0 by decide)]
        have hs : spc y.2 mw 0 = nI 4 := spc_first b3.1 mw 0 (Nat.zero_le 4) (by omega) (fun t _ ht => s_seek b3 t ht)
        have hn := nf5 (f := y.2) e' c3 h16
        have q : f_X6_runCommand k g mw y.2 = ((f_X6_seek k g (f_X7_numberFrom5 (upd (upd y.1 1 (y.1 0)) 0 0, y.2))).1, k, (f_X6_seek k g (f_X7_numberFrom5 (upd (upd y.1 1 (y.1 0)) 0 0, y.2))).2) := by
          rw [rc_p (lm := mw - 5) hs (by decide) (by omega), rw4 b3, hn]
        obtain ⟨p1, p2, p3⟩ := seek_all (y := (upd (upd y.1 1 (y.1 0)) 0 0, y.2)) hk hR hN (by rw [hn]; exact nin_b (by omega))
        rw [q]
        exact ⟨p1, rfl, hk, h9, p2, p3, rfl⟩
    · rw [a2, if_neg (show ¬ (1 : Int32) = 0 by decide)]
      have hs : spc y.2 mw 0 = nI 3 := spc_first b2.1 mw 0 (Nat.zero_le 3) (by omega) (fun t _ ht => s_cap b2 t ht)
      have hn := nf4 (f := y.2) e' c2 h16
      rw [cap_eq, hn, rc_p (lm := mw - 4) hs (by decide) (by omega), rw3 b2]
      obtain ⟨p1, p2, p3⟩ := ccap_ok (p := f_X6_numberIn (mw - 4) (fun t => y.2 (3 + 1 + t))) hk h9 hN (nin_b (by omega))
      exact ⟨rfl, rfl, p1, p2, hR, p3, rfl⟩
  · rw [a1, if_neg (show ¬ (1 : Int32) = 0 by decide)]
    have hs : spc y.2 mw 0 = nI 6 := spc_first b1.1 mw 0 (Nat.zero_le 6) (by omega) (fun t _ ht => s_policy b1 t ht)
    rw [← pf7 e' c1 h16, rc_p (lm := mw - 7) hs (by decide) (by omega), rw6 b1]
    obtain ⟨p1, p2, p3⟩ := cpol_ok (p := f_X6_policyNamed (mw - 7) (fun t => y.2 (6 + 1 + t))) hk h9 hN pn_b
    exact ⟨rfl, rfl, p1, p2, hR, p3, rfl⟩
/-- the command line of both -/
def TR (x : Tx) (y : Ky) : Prop := ∃ mw : Nat, mw ≤ 16 ∧ x.1 0 = nI mw ∧ y.1 0 = nI mw ∧ (∀ t, t < mw → x.2 t = y.2 t) ∧ ∀ t, t < 16 → btw (x.2 t) 0 127
theorem key_rel {x : Tx} {y : Ky} {p : Int32} (h : TR x y) : (f_X6_typeKey x p).1 = (f_X7_typeKey y p).1 ∧ TR (f_X6_typeKey x p).2 (f_X7_typeKey y p).2 := by
  have h' := h
  obtain ⟨mw, h16, ex, ey, hs, hb⟩ := h
  unfold f_X6_typeKey f_X7_typeKey
  rw [isw]
  by_cases a : f_X7_within p 32 126 = 0
  · rw [if_pos a, if_pos a]
    exact ⟨rfl, h'⟩
  · rw [if_neg a, if_neg a, ex, ey]
    have w := within_y a
    rw [show (32 : Int32).toInt = 32 by decide, show (126 : Int32).toInt = 126 by decide] at w
    by_cases c : mw = 16
    · rw [if_neg (show ¬ nI mw < 16 by rw [c]; decide), if_pos (show nI mw = 16 by rw [c]; decide)]
      exact ⟨rfl, h'⟩
    · rw [if_pos (show nI mw < 16 from nI_lt (b := 16) (by omega) (by decide)), if_neg (show ¬ nI mw = 16 from nI_ne (b := 16) c (by omega) (by decide)), nI_clamp (by omega)]
      refine ⟨rfl, mw + 1, by omega, nI_1 mw, nI_1 mw, fun t ht => ?_, fun t ht => ?_⟩
      · show upd x.2 mw p t = upd y.2 mw p t
        by_cases d : t = mw
        · rw [d, pk_us, pk_us]
        · rw [pk_un d, pk_un d]
          exact hs t (by omega)
      · show btw (upd x.2 mw p t) 0 127
        by_cases d : t = mw
        · rw [d, pk_us]
          exact ⟨by omega, by omega⟩
        · rw [pk_un d]
          exact hb t ht
