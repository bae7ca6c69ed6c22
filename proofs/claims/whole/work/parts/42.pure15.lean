/-! a session's start, a whole session, an advance -/
theorem bl48 : ∀ (n j : Nat) (g : Ss), 30 < j + n → j ≤ 30 → (f_X2_begin_l48 n g j).1 = g.1 ∧ (f_X2_begin_l48 n g j).2.1 = g.2.1 ∧ ∀ i, (f_X2_begin_l48 n g j).2.2 i = if j ≤ i ∧ i < 30 then -6 else g.2.2 i
  | 0, j, g, h, hj => absurd h (by omega)
  | n + 1, j, g, h, hj => by
    rw [f_X2_begin_l48]
    split
    · next h1 =>
      have h2 := nI_yge (a := 30) h1 (by decide) (by omega)
      exact ⟨rfl, rfl, fun i => by rw [if_neg (by omega)]⟩
    · next h1 =>
      have h2 := nI_nge (a := 30) h1 (by omega)
      obtain ⟨a, b, c⟩ := bl48 n (j + 1) (g.1, g.2.1, upd g.2.2 j (-6)) (by omega) (by omega)
      refine ⟨a, b, fun i => ?_⟩
      rw [c i]
      by_cases hi : i = j
      · subst hi
        rw [if_neg (by omega), if_pos (by omega)]
        exact pk_us
      · rw [show (((g.1, g.2.1, upd g.2.2 j (-6)) : Ss).2.2) i = g.2.2 i from pk_un hi]
        by_cases h3 : j + 1 ≤ i ∧ i < 30
        · rw [if_pos h3, if_pos (by omega)]
        · rw [if_neg h3, if_neg (by omega)]
theorem begin_rel {k : Cf} {g : Ss} {v : Fn} : Rel (f_X2_begin k g) (f_X7_begins v) := by
  have hz : ∀ i, i < 15 ∨ (16 ≤ i ∧ i < 22) → f_X7_begins v i = 0 := fun i hi => by
    rw [bg_at, if_neg (by omega), if_neg (by omega), if_pos (by omega)]
  have h15 : f_X7_begins v 15 = -6 := by rw [bg_at]; rfl
  unfold f_X2_begin
  obtain ⟨b1, b2, b3⟩ := bl48 31 0 (upd (upd (upd (upd (upd (upd (upd (upd ((f_X2_moveTo k g (0 : Int32)).1) 4 (0 : Int32)) 0 (0 : Int32)) 16 (0 : Int32)) 17 (0 : Int32)) 18 (0 : Int32)) 19 (0 : Int32)) 20 (0 : Int32)) 15 (-6 : Int32), (f_X2_moveTo k g (0 : Int32)).2.1, (f_X2_moveTo k g (0 : Int32)).2.2) (by decide) (by decide)
  generalize f_X2_begin_l48 31 (upd (upd (upd (upd (upd (upd (upd (upd ((f_X2_moveTo k g (0 : Int32)).1) 4 (0 : Int32)) 0 (0 : Int32)) 16 (0 : Int32)) 17 (0 : Int32)) 18 (0 : Int32)) 19 (0 : Int32)) 20 (0 : Int32)) 15 (-6 : Int32), (f_X2_moveTo k g (0 : Int32)).2.1, (f_X2_moveTo k g (0 : Int32)).2.2) 0 = q at b1 b2 b3
  refine ⟨?_, ?_, ?_, ?_, ?_⟩
  · intro i hi
    rw [b1]
    rcases (show i = 0 ∨ i = 1 ∨ i = 2 ∨ i = 3 ∨ i = 4 ∨ i = 5 ∨ i = 6 ∨ i = 15 ∨ i = 16 ∨ i = 17 ∨ i = 18 ∨ i = 19 ∨ i = 20 by omega) with rfl | rfl | rfl | rfl | rfl | rfl | rfl | rfl | rfl | rfl | rfl | rfl | rfl
    · rw [hz 0 (by decide)]; rfl
    · rw [hz 1 (by decide)]; rfl
    · rw [hz 2 (by decide)]
      show (0 : Int32) * k.1 1 = 0
      exact Int32.zero_mul
    · rw [hz 3 (by decide)]; rfl
    · rw [hz 4 (by decide)]; rfl
    · rw [hz 5 (by decide)]; rfl
    · rw [hz 6 (by decide)]; rfl
    · rw [h15]; rfl
    · rw [hz 16 (by decide)]; rfl
    · rw [hz 17 (by decide)]; rfl
    · rw [hz 18 (by decide)]; rfl
    · rw [hz 19 (by decide)]; rfl
    · rw [hz 20 (by decide)]; rfl
  · intro h
    rw [hz 6 (by decide)] at h
    exact absurd h (by decide)
  · rw [b1, hz 11 (by decide)]
    exact (show (0 : Int32) = if (3 : Int32) ≤ 0 then 3 else 0 by decide)
  · intro i hi hlt
    rw [hz 11 (by decide), i32_0] at hlt
    exact absurd hlt (by omega)
  · intro i hi
    rw [b3 i, if_pos (by omega), bg_at, if_pos (by omega)]
theorem pw_rel {k : Cf} {p : Int32} (hk : KOK k) (hl : 1 ≤ (k.1 2).toInt) (hp : btw p 0 3) : ∀ (n j : Nat) (g : Ss) (v : Fn), j + n < 1000000000 → Rel g v → NI k v j → Rel (f_X2_playWhole_l6 k p (k.1 10) n g j) (f_X7_simulates_l4 k p n v)
  | 0, j, g, v, _, hR, _ => hR
  | n + 1, j, g, v, hj, hR, hN => by
    rw [f_X2_playWhole_l6, f_X7_simulates_l4, hR.1 3 (Or.inl (by decide)), hN.2]
    by_cases a : (120000 : Int32) ≤ nI j
    · rw [if_pos a, if_pos a, ite_self]
      exact hR
    · rw [if_neg a, if_neg a]
      by_cases b : v 3 = (3 : Int32)
      · rw [if_pos b, if_pos b]
        exact hR
      · rw [if_neg b, if_neg b]
        exact pw_rel hk hl hp n (j + 1) _ _ (by omega) (pass_rel hk hl (by omega) hR hN hp).1 (ps_ok hk hl (by omega) hN p)
theorem whole_rel {k : Cf} {p : Int32} {h : Ss} {v : Fn} (hk : KOK k) (hl : 1 ≤ (k.1 2).toInt) (hp : btw p 0 3) : Rel (f_X2_playWhole k h p (k.1 10)) (f_X7_simulates k v p) := by
  unfold f_X2_playWhole f_X7_simulates
  exact pw_rel hk hl hp 120001 0 _ _ (by decide) begin_rel (bg_ok hk v)
theorem adv_rel {k : Cf} {w : Fn} {p : Int32} (hk : KOK k) (hl : 1 ≤ (k.1 2).toInt) (hp : btw (k.1 9) 0 3) : ∀ (n j t : Nat) (g : Ss) (v : Fn) (z : Int32), t + n < 1000000000 → Rel g v → NI k v t → z = v 21 - w 21 → (f_X6_advance_l29 k p n g z j).1 = (f_X7_advance_l32 k w p n v j).1 ∧ Rel (f_X6_advance_l29 k p n g z j).2 (f_X7_advance_l32 k w p n v j).2 ∧ ∃ t' : Nat, t' ≤ t + n ∧ NI k (f_X7_advance_l32 k w p n v j).2 t'
  | 0, j, t, g, v, z, _, hR, hN, _ => ⟨rfl, hR, t, Nat.le_refl t, hN⟩
  | n + 1, j, t, g, v, z, hj, hR, hN, hz => by
    rw [f_X6_advance_l29, f_X7_advance_l32]
    by_cases a : p ≤ nI j
    · rw [if_pos a, if_pos a]
      exact ⟨hz, hR, t, by omega, hN⟩
    · rw [if_neg a, if_neg a]
      have hN2 := ps_ok hk hl (by omega) hN (k.1 9)
      obtain ⟨h1, h2⟩ := pass_rel hk hl (by omega) hR hN hp
      rcases h2 with ⟨h2, h3⟩ | ⟨h2, h3⟩
      · rw [if_pos h2]
        obtain ⟨r1, r2, t', r3, r4⟩ := adv_rel hk hl hp n (j + 1) (t + 1) _ _ z (by omega) h1 hN2 (by rw [h3]; exact hz)
        exact ⟨r1, r2, t', by omega, r4⟩
      · rw [if_neg (by rw [h2]; decide)]
        obtain ⟨r1, r2, t', r3, r4⟩ := adv_rel hk hl hp n (j + 1) (t + 1) _ _ (z + 1) (by omega) h1 hN2 (by rw [h3, hz, Int32.sub_eq_add_neg, Int32.sub_eq_add_neg, Int32.add_assoc, Int32.add_assoc, Int32.add_comm (-w 21) 1])
        exact ⟨r1, r2, t', by omega, r4⟩
theorem isw (a b c : Int32) : f_X6_isWithin a b c = f_X7_within a b c := rfl
theorem advance_rel {k : Cf} {g : Ss} {v : Fn} {p : Int32} {t : Nat} (hk : KOK k) (hp : btw (k.1 9) 0 3) (ht : t < 900000000) (hR : Rel g v) (hN : NI k v t) : (f_X6_advance k g p).1 = (f_X7_advance k v p).1 ∧ Rel (f_X6_advance k g p).2 (f_X7_advance k v p).2 ∧ ∃ t' : Nat, t' ≤ t + 60001 ∧ NI k (f_X7_advance k v p).2 t' := by
  unfold f_X6_advance f_X7_advance
  rw [isw]
  by_cases a : f_X7_within p 1 60000 = 0
  · rw [if_pos a, if_pos a]
    exact ⟨rfl, hR, t, by omega, hN⟩
  · rw [if_neg a, if_neg a]
    by_cases b : k.1 2 = 0
    · rw [if_pos b, if_pos b]
      exact ⟨rfl, hR, t, by omega, hN⟩
    · rw [if_neg b, if_neg b]
      exact adv_rel hk (l1_of hk b) hp 60001 0 t g v 0 (by omega) hR hN (Int32.sub_self _).symm
