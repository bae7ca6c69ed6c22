/-! the command line is run -/
theorem spc_first {f : Nat → Int32} {i : Nat} (hi : f i = 32) : ∀ (n j : Nat), j ≤ i → i < j + n → (∀ t, j ≤ t → t < i → ¬ f t = 32) → spc f n j = nI i
  | 0, j, h1, h2, _ => absurd h2 (by omega)
  | n + 1, j, h1, h2, h3 => by
    rw [spc]
    by_cases c : j = i
    · rw [c, if_pos hi]
    · rw [if_neg (h3 j (Nat.le_refl j) (by omega))]
      exact spc_first hi n (j + 1) (by omega) (by omega) (fun t a b => h3 t (by omega) b)
theorem spc_fst {f : Nat → Int32} : ∀ (n j : Nat), (0 : Int32) ≤ spc f n j → ∃ i, j ≤ i ∧ i < j + n ∧ spc f n j = nI i ∧ f i = 32 ∧ ∀ t, j ≤ t → t < i → ¬ f t = 32
  | 0, j, h => absurd h (by rw [spc]; decide)
  | n + 1, j, h => by
    rw [spc] at h ⊢
    by_cases c : f j = 32
    · rw [if_pos c]
      exact ⟨j, Nat.le_refl j, by omega, rfl, c, fun t a b => absurd a (by omega)⟩
    · rw [if_neg c] at h ⊢
      obtain ⟨i, h1, h2, h3, h4, h5⟩ := spc_fst n (j + 1) h
      refine ⟨i, by omega, by omega, h3, h4, fun t a b => ?_⟩
      by_cases d : t = j
      · rw [d]
        exact c
      · exact h5 t (by omega) b
theorem spc_none {f : Nat → Int32} : ∀ (n j : Nat), (∀ t, j ≤ t → t < j + n → ¬ f t = 32) → ¬ (0 : Int32) ≤ spc f n j
  | 0, j, h => by rw [spc]; decide
  | n + 1, j, h => by
    rw [spc, if_neg (h j (Nat.le_refl j) (by omega))]
    exact spc_none n (j + 1) (fun t a b => h t (by omega) (by omega))
theorem rc_c {k : Cf} {g : Ss} {mw : Nat} {f f' : Nat → Int32} (h16 : mw ≤ 16) (h : ∀ t, t < mw → f t = f' t) : f_X6_runCommand k g mw f = f_X6_runCommand k g mw f' := by
  have e : spc f mw 0 = spc f' mw 0 := spc_c (fun t _ ht => h t (by omega))
  by_cases c : (0 : Int32) ≤ spc f mw 0
  · obtain ⟨i, h1, h2, h3, -⟩ := spc_fst mw 0 c
    rw [rc_p (lm := mw - (i + 1)) h3 (by omega) (by omega), rc_p (lm := mw - (i + 1)) (e.symm.trans h3) (by omega) (by omega)]
    exact rwa_c (fun t ht => h t (by omega)) (fun t ht => h _ (by omega))
  · rw [rc_w c, rc_w (by rw [← e]; exact c), rw_c h]
theorem move_rel {k : Cf} {g : Ss} {v : Fn} {p : Int32} (hR : Rel g v) : Rel (f_X2_moveTo k g p) (upd (upd (upd (upd (upd (upd v 6 0) 1 0) 5 p) 2 (p * k.1 1)) 3 0) 11 0) := by
  obtain ⟨h1, h2, h3, h4, h5⟩ := hR
  refine ⟨?_, ?_, ?_, ?_, ?_⟩
  · intro i hi
    rcases (show i = 0 ∨ i = 1 ∨ i = 2 ∨ i = 3 ∨ i = 4 ∨ i = 5 ∨ i = 6 ∨ i = 15 ∨ i = 16 ∨ i = 17 ∨ i = 18 ∨ i = 19 ∨ i = 20 by omega) with rfl | rfl | rfl | rfl | rfl | rfl | rfl | rfl | rfl | rfl | rfl | rfl | rfl
    · exact h1 0 (Or.inl (by decide))
    · rfl
    · rfl
    · rfl
    · exact h1 4 (Or.inl (by decide))
    · rfl
    · rfl
    · exact h1 15 (Or.inr (by decide))
    · exact h1 16 (Or.inr (by decide))
    · exact h1 17 (Or.inr (by decide))
    · exact h1 18 (Or.inr (by decide))
    · exact h1 19 (Or.inr (by decide))
    · exact h1 20 (Or.inr (by decide))
  · intro h
    exact absurd (show (0 : Int32) = 1 from h) (by decide)
  · exact (show (0 : Int32) = if (3 : Int32) ≤ 0 then 3 else 0 by decide)
  · intro i hi hlt
    have hlt : (i : Int) < (0 : Int32).toInt := hlt
    rw [i32_0] at hlt
    exact absurd hlt (by omega)
  · intro i hi
    rw [pk_un (f := upd (upd (upd (upd (upd v 6 0) 1 0) 5 p) 2 (p * k.1 1)) 3 0) (by omega), pk_un (f := upd (upd (upd (upd v 6 0) 1 0) 5 p) 2 (p * k.1 1)) (by omega), pk_un (f := upd (upd (upd v 6 0) 1 0) 5 p) (by omega), pk_un (f := upd (upd v 6 0) 1 0) (by omega), pk_un (f := upd v 6 0) (by omega), pk_un (f := v) (by omega)]
    exact h5 i hi
theorem move_ok {k : Cf} {v : Fn} {p x : Int32} {j : Nat} (hN : NI k v j) (hp : btw p 0 (k.1 0).toInt) : NI k (upd (upd (upd (upd (upd (upd v 6 0) 1 0) 5 p) 2 x) 3 0) 11 0) j := by
  obtain ⟨⟨n1, n3, n31, n4, n5, n6, n7, n11, n12, n13, n14, n15⟩, n0⟩ := hN
  exact ⟨⟨(show btw (0 : Int32) 0 60000 from bl0 (by decide)), (show btw (0 : Int32) 0 3 from bl0 (by decide)), fun h => absurd (show (0 : Int32) = 1 from h) (by decide), n4, hp, (show btw (0 : Int32) 0 1 from bl0 (by decide)), fun h => absurd (show (0 : Int32) = 1 from h) (by decide), (show btw (0 : Int32) 0 (j : Int) from bl0 (Int.natCast_nonneg j)), n12, n13, n14, n15⟩, n0⟩
theorem pn_b {lm : Nat} {f : Nat → Int32} : f_X6_policyNamed lm f = -6 ∨ btw (f_X6_policyNamed lm f) 0 3 := by
  unfold f_X6_policyNamed
  split
  · split
    · split
      · split
        · exact Or.inl rfl
        · exact Or.inr ⟨by decide, by decide⟩
      · exact Or.inr ⟨by decide, by decide⟩
    · exact Or.inr ⟨by decide, by decide⟩
  · exact Or.inr ⟨by decide, by decide⟩
/-- what both leave behind a command -/
def GOOD (t : Nat) (y : Ky) (a : Int32 × Cf × Ss) (b : Int32 × Cf × Fn × Ky) : Prop :=
  a.1 = b.1 ∧ a.2.1 = b.2.1 ∧ KOK b.2.1 ∧ btw (b.2.1.1 9) 0 3 ∧ Rel a.2.2 b.2.2.1 ∧ NI b.2.1 b.2.2.1 t ∧ b.2.2.2 = y
theorem cpol_ok {k : Cf} {v : Fn} {t : Nat} {p : Int32} (hk : KOK k) (h9 : btw (k.1 9) 0 3) (hN : NI k v t) (hp : p = -6 ∨ btw p 0 3) : KOK (f_X6_changePolicy k p).2 ∧ btw ((f_X6_changePolicy k p).2.1 9) 0 3 ∧ NI (f_X6_changePolicy k p).2 v t := by
  rcases hp with rfl | hp
  · rw [cp_no]
    exact ⟨hk, h9, hN⟩
  · unfold f_X6_changePolicy
    split
    · exact ⟨hk, h9, hN⟩
    · split
      · exact ⟨hk, hp, hN⟩
      · exact ⟨hk, hp, hN⟩
theorem ccap_ok {k : Cf} {v : Fn} {t : Nat} {p : Int32} (hk : KOK k) (h9 : btw (k.1 9) 0 3) (hN : NI k v t) (hp : p = -6 ∨ btw p 0 99) : KOK (f_X6_changeCap k p).2 ∧ btw ((f_X6_changeCap k p).2.1 9) 0 3 ∧ NI (f_X6_changeCap k p).2 v t := by
  rcases hp with rfl | hp
  · have e : f_X6_changeCap k (-6) = (-5, k) := if_pos rfl
    rw [e]
    exact ⟨hk, h9, hN⟩
  · unfold f_X6_changeCap
    split
    · exact ⟨hk, h9, hN⟩
    · split
      · next h4 =>
        rw [fa_le, show (4 : Int32).toInt = 4 by decide] at h4
        have hk2 : KOK (upd k.1 10 p, k.2.1, k.2.2.1, k.2.2.2.1, k.2.2.2.2) := by
          obtain ⟨q0, q1, q2, q3, q4, q5, q6, q7, q8, q10, qb, qv, qr⟩ := hk
          exact ⟨q0, q1, q2, q3, q4, q5, q6, q7, q8, ⟨hp.1, h4⟩, qb, qv, qr⟩
        split
        · exact ⟨hk2, h9, hN⟩
        · exact ⟨hk2, h9, hN⟩
      · exact ⟨hk, h9, hN⟩
theorem cap_eq {k : Cf} {y : Ky} : f_X7_capFrom4 k y = f_X6_changeCap k (f_X7_numberFrom4 y) := by
  unfold f_X7_capFrom4 f_X6_changeCap
  generalize f_X7_numberFrom4 y = p
  by_cases a : p = -6
  · rw [if_pos a, if_pos a]
  · rw [if_neg a, if_neg a]
    by_cases b : p < 5
    · rw [if_pos b, if_pos (show p ≤ 4 by rw [fa_le, show (4 : Int32).toInt = 4 by decide]; rw [fa_lt, show (5 : Int32).toInt = 5 by decide] at b; omega)]
      rfl
    · rw [if_neg b, if_neg (show ¬ p ≤ 4 by rw [fa_le, show (4 : Int32).toInt = 4 by decide]; rw [fa_lt, show (5 : Int32).toInt = 5 by decide] at b; omega)]
theorem seek_all {k : Cf} {g : Ss} {v : Fn} {y : Ky} {t : Nat} (hk : KOK k) (hR : Rel g v) (hN : NI k v t) (hp : f_X7_numberFrom5 y = -6 ∨ btw (f_X7_numberFrom5 y) 0 99) : (f_X6_seek k g (f_X7_numberFrom5 y)).1 = (f_X7_seekFrom5 k v y).1 ∧ Rel (f_X6_seek k g (f_X7_numberFrom5 y)).2 (f_X7_seekFrom5 k v y).2 ∧ NI k (f_X7_seekFrom5 k v y).2 t := by
  unfold f_X6_seek f_X7_seekFrom5
  generalize f_X7_numberFrom5 y = p at hp ⊢
  by_cases a : p = -6
  · rw [if_pos a, if_pos a]
    exact ⟨rfl, hR, hN⟩
  · rw [if_neg a, if_neg a]
    have hp := hp.resolve_left a
    by_cases b : p < k.1 0
    · rw [if_pos b]
      rw [fa_lt] at b
      rw [hasS hk hp.1 b, if_neg (show ¬ (1 : Int32) = 0 by decide)]
      exact ⟨rfl, move_rel hR, move_ok hN ⟨hp.1, by omega⟩⟩
    · rw [if_neg b]
      have e : f_X5_hasSegment k p = 0 := by
        unfold f_X5_hasSegment
        rw [if_neg (by rw [fa_lt, i32_0]; have := hp.1; omega), if_pos (by rw [fa_le]; rw [fa_lt] at b; omega)]
      rw [e, if_pos rfl]
      exact ⟨rfl, hR, hN⟩
theorem pause_rel {g : Ss} {v : Fn} {k : Cf} {t : Nat} {x : Int32} (hR : Rel g v) (hN : NI k v t) (hx : btw x 0 1) : Rel (upd g.1 4 x, g.2.1, g.2.2) (upd v 4 x) ∧ NI k (upd v 4 x) t := by
  obtain ⟨⟨n1, n3, n31, n4, n5, n6, n7, n11, n12, n13, n14, n15⟩, n0⟩ := hN
  exact ⟨hR.set 4 (Or.inl (by decide)) rfl, ⟨n1, n3, n31, hx, n5, n6, n7, n11, n12, n13, n14, n15⟩, n0⟩
theorem pause1 {g : Ss} {v : Fn} {k : Cf} {t : Nat} (hR : Rel g v) (hN : NI k v t) : (f_X6_changePause1 g).1 = (f_X7_pauses v 1).1 ∧ Rel (f_X6_changePause1 g).2 (f_X7_pauses v 1).2 ∧ NI k (f_X7_pauses v 1).2 t := by
  have h := pause_rel (x := 1) hR hN ⟨by decide, by decide⟩
  unfold f_X6_changePause1 f_X7_pauses
  rw [hR.1 4 (Or.inl (by decide))]
  by_cases c : v 4 = 1
  · rw [if_pos c, if_pos c]
    exact ⟨rfl, h⟩
  · rw [if_neg c, if_neg c]
    exact ⟨rfl, h⟩
theorem pause0 {g : Ss} {v : Fn} {k : Cf} {t : Nat} (hR : Rel g v) (hN : NI k v t) : (f_X6_changePause0 g).1 = (f_X7_pauses v 0).1 ∧ Rel (f_X6_changePause0 g).2 (f_X7_pauses v 0).2 ∧ NI k (f_X7_pauses v 0).2 t := by
  have h := pause_rel (x := 0) hR hN ⟨by decide, by decide⟩
  unfold f_X6_changePause0 f_X7_pauses
  rw [hR.1 4 (Or.inl (by decide))]
  by_cases c : v 4 = 0
  · rw [if_pos c, if_pos c]
    exact ⟨rfl, h⟩
  · rw [if_neg c, if_neg c]
    exact ⟨rfl, h⟩
