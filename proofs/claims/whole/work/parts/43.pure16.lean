/-! the cap is no part of what a session reads: only what it is given -/
abbrev kc (k : Cf) (x : Int32) : Cf := (upd k.1 10 x, k.2.1, k.2.2.1, k.2.2.2.1, k.2.2.2.2)
theorem rl_cap {k : Cf} {x t : Int32} : ∀ (n : Nat) (r : Int32) (j : Nat), f_X0_rateAt_l28 (kc k x) t n r j = f_X0_rateAt_l28 k t n r j
  | 0, _, _ => rfl
  | n + 1, r, j => by
    rw [f_X0_rateAt_l28, f_X0_rateAt_l28, rl_cap n]
    rfl
theorem rt_cap {k : Cf} {x : Int32} : f_X0_rateAt (kc k x) = f_X0_rateAt k := funext fun _ => rl_cap 13 1000 0
theorem hl_cap {k : Cf} {x b : Int32} : ∀ (n : Nat) (r : Int32), f_X5_highestLevelWithin_l12 (kc k x) b n r = f_X5_highestLevelWithin_l12 k b n r
  | 0, _ => rfl
  | n + 1, r => by
    rw [f_X5_highestLevelWithin_l12, f_X5_highestLevelWithin_l12, hl_cap n]
theorem lr_cap {k : Cf} {g : Ss} {x : Int32} (c : Int32) : f_X2_levelByRate (kc k x) g c = f_X2_levelByRate k g c := by
  unfold f_X2_levelByRate f_X5_highestLevelWithin
  rw [hl_cap]
  rfl
theorem lb_cap {k : Cf} {g : Ss} {x : Int32} (c : Int32) : f_X2_levelByBuffer (kc k x) g c = f_X2_levelByBuffer k g c := rfl
theorem ch_cap {k : Cf} {g : Ss} {x p : Int32} (c : Int32) : f_X2_chooseLevel (kc k x) g p c = f_X2_chooseLevel k g p c := by
  unfold f_X2_chooseLevel f_X2_levelByBoth
  rw [lr_cap, lb_cap]
  rfl
theorem cn_cap {k : Cf} {g : Ss} {x : Int32} : f_X2_canStartDownload (kc k x) g = f_X2_canStartDownload k g := rfl
theorem sz_cap {k : Cf} {x a b : Int32} : f_X5_sizeOf (kc k x) a b = f_X5_sizeOf k a b := rfl
theorem pl_cap {k : Cf} {g : Ss} {x : Int32} : f_X2_play (kc k x) g = f_X2_play k g := rfl
theorem co_cap {k : Cf} {g : Ss} {x : Int32} : f_X2_completeSegment (kc k x) g = f_X2_completeSegment k g := rfl
theorem c80_cap {k : Cf} {g : Ss} {x z : Int32} : f_X2_passMillisecond_c80 (kc k x) g z = f_X2_passMillisecond_c80 k g z := by
  unfold f_X2_passMillisecond_c80
  rw [pl_cap]
theorem c72_cap {k : Cf} {g : Ss} {x z : Int32} : f_X2_passMillisecond_c72 (kc k x) g z = f_X2_passMillisecond_c72 k g z := by
  unfold f_X2_passMillisecond_c72
  rw [co_cap, c80_cap, c80_cap]
theorem c34_cap {k : Cf} {g : Ss} {x : Int32} : f_X2_passMillisecond_c34 (kc k x) g = f_X2_passMillisecond_c34 k g := by
  unfold f_X2_passMillisecond_c34
  rw [rt_cap, c72_cap, c72_cap]
theorem pm_cap {k : Cf} {g : Ss} {x p c : Int32} : f_X2_passMillisecond (kc k x) g p c = f_X2_passMillisecond k g p c := by
  unfold f_X2_passMillisecond
  rw [cn_cap, ch_cap, sz_cap, c34_cap, c34_cap]
theorem pw_cap {k : Cf} {x p c : Int32} : ∀ (n : Nat) (g : Ss) (j : Nat), f_X2_playWhole_l6 (kc k x) p c n g j = f_X2_playWhole_l6 k p c n g j
  | 0, _, _ => rfl
  | n + 1, g, j => by rw [f_X2_playWhole_l6, f_X2_playWhole_l6, pm_cap, pw_cap n]
theorem bg_cap {k : Cf} {g : Ss} {x : Int32} : f_X2_begin (kc k x) g = f_X2_begin k g := by
  have e : f_X2_moveTo (kc k x) g 0 = f_X2_moveTo k g 0 := rfl
  unfold f_X2_begin
  rw [e]
theorem wh_cap {k : Cf} {g : Ss} {x p c : Int32} : f_X2_playWhole (kc k x) g p c = f_X2_playWhole k g p c := by
  unfold f_X2_playWhole
  rw [bg_cap, pw_cap]
/-- a what-if run with a cap of its own, against the reference's -/
theorem smooth_rel {k : Cf} {h : Ss} {v : Fn} {i : Nat} (hk : KOK k) (hl : 1 ≤ (k.1 2).toInt) (hi : i < 5) : Rel (f_X2_playWhole k h 0 (nI i)) (f_X7_simulates (kc k (nI i)) v 0) := by
  rw [← wh_cap (x := nI i)]
  exact whole_rel (k := kc k (nI i)) (kok_cap hk hi) hl ⟨by decide, by decide⟩
def sm3 (k : Cf) (i : Nat) : Int32 := f_X7_simulates (kc k (nI i)) (fun _ => 0) 0 3
def sm17 (k : Cf) (i : Nat) : Int32 := f_X7_simulates (kc k (nI i)) (fun _ => 0) 0 17
def best (k : Cf) : Nat → Int32
  | 0 => -6
  | i + 1 => if sm3 k i = 3 then (if sm17 k i = 0 then nI i else best k i) else best k i
theorem sm_c {k : Cf} {h : Ss} {i : Nat} (hk : KOK k) (hl : 1 ≤ (k.1 2).toInt) (hi : i < 5) : (f_X2_playWhole k h 0 (nI i)).1 3 = sm3 k i ∧ (f_X2_playWhole k h 0 (nI i)).1 17 = sm17 k i :=
  ⟨(smooth_rel hk hl hi).1 3 (Or.inl (by decide)), (smooth_rel hk hl hi).1 17 (Or.inr (by decide))⟩
theorem sm_m {k : Cf} {v : Fn} {i : Nat} (hk : KOK k) (hl : 1 ≤ (k.1 2).toInt) (hi : i < 5) : f_X7_simulates (kc k (nI i)) v 0 3 = sm3 k i ∧ f_X7_simulates (kc k (nI i)) v 0 17 = sm17 k i :=
  ⟨((smooth_rel (h := g00) hk hl hi).1 3 (Or.inl (by decide))).symm.trans (sm_c hk hl hi).1, ((smooth_rel (h := g00) hk hl hi).1 17 (Or.inr (by decide))).symm.trans (sm_c hk hl hi).2⟩
theorem nI_m1 {i : Nat} (hi : i < 1000) : nI (i + 1) + (-1) = nI i := by
  apply Int32.toInt_inj.mp
  rw [fb_addI (by rw [nI_toInt (by omega), show (-1 : Int32).toInt = -1 by decide]; omega) (by rw [nI_toInt (by omega), show (-1 : Int32).toInt = -1 by decide]; omega), nI_toInt (by omega), nI_toInt (by omega), show (-1 : Int32).toInt = -1 by decide]
  omega
theorem best_dn {k : Cf} (hk : KOK k) (hl : 1 ≤ (k.1 2).toInt) : ∀ (n i : Nat) (h : Ss), i < n → i ≤ 5 → (f_X6_bestSmoothLevel_l23 k n h (nI i + (-1))).1 = best k i
  | 0, i, h, hn, _ => absurd hn (Nat.not_lt_zero i)
  | n + 1, 0, h, hn, _ => by
    rw [f_X6_bestSmoothLevel_l23, if_pos (show nI 0 + (-1) < 0 by decide)]
    rfl
  | n + 1, i + 1, h, hn, h5 => by
    rw [f_X6_bestSmoothLevel_l23, nI_m1 (by omega), if_neg (show ¬ nI i < 0 from nI_nlt (b := 0) (Nat.zero_le i) (by omega)), (sm_c hk hl (by omega)).1, (sm_c hk hl (by omega)).2, best]
    by_cases a : sm3 k i = 3
    · rw [if_pos a, if_pos a]
      by_cases b : sm17 k i = 0
      · rw [if_pos b, if_pos b]
      · rw [if_neg b, if_neg b]
        exact best_dn hk hl n i _ (by omega) (by omega)
    · rw [if_neg a, if_neg a]
      exact best_dn hk hl n i _ (by omega) (by omega)
theorem best_up {k : Cf} {v a : Fn} {L : Nat} (hk : KOK k) (hl : 1 ≤ (k.1 2).toInt) (hL : k.1 2 = nI L) (h5 : L ≤ 5) : ∀ (n j : Nat) (c0 : Int32) (v1 : Fn), j ≤ L → L < j + n → (f_X7_bestSmoothLevel_l24 k v a n c0 v1 (best k j) j).1 = best k L ∧ (f_X7_bestSmoothLevel_l24 k v a n c0 v1 (best k j) j).2.1 = k ∧ ∃ w : Fn, (f_X7_bestSmoothLevel_l24 k v a n c0 v1 (best k j) j).2.2.1 = f_X7_takesBack w (f_X7_setsAside v a)
  | 0, j, c0, v1, hj, hn => absurd hn (by omega)
  | n + 1, j, c0, v1, hj, hn => by
    rw [f_X7_bestSmoothLevel_l24, hL]
    rcases Nat.lt_or_ge j L with h | h
    · rw [if_neg (nI_gt h (by omega)), (sm_m hk hl (by omega)).1, (sm_m hk hl (by omega)).2]
      have e : best k (j + 1) = if sm3 k j = 3 then (if sm17 k j = 0 then nI j else best k j) else best k j := by rw [best]
      by_cases x : sm3 k j = 3
      · rw [if_pos x] at e ⊢
        by_cases y : sm17 k j = 0
        · rw [if_pos y] at e ⊢
          rw [← e]
          exact best_up hk hl hL h5 n (j + 1) _ _ h (by omega)
        · rw [if_neg y] at e ⊢
          rw [← e]
          exact best_up hk hl hL h5 n (j + 1) _ _ h (by omega)
      · rw [if_neg x] at e ⊢
        rw [← e]
        exact best_up hk hl hL h5 n (j + 1) _ _ h (by omega)
    · obtain rfl : j = L := by omega
      rw [if_pos (nI_le (Nat.le_refl j) (by omega))]
      refine ⟨rfl, ?_, v1, rfl⟩
      show (upd k.1 10 (k.1 10), k.2.1, k.2.2.1, k.2.2.2.1, k.2.2.2.2) = k
      rw [fa_upd_same (f := k.1) (i := 10) rfl]
