/-! what is cleared, and plans of a group -/
def gl_E (sr sr' : Nat → Int64) : Prop := ∀ p, p < 6 → sr p = sr' p
theorem gl_clear2 : ∀ (k j : Nat) (sr sv : Nat → Int64), j + k = 6 → (∀ p, p < j → sr p = 0 ∧ sv p = 0) → ∀ p, p < 6 → (mm_Sp_clear_L2 k j sr sv).1 p = 0 ∧ (mm_Sp_clear_L2 k j sr sv).2 p = 0
  | 0, j, sr, sv, hj, h, p, hp => by rw [mm_Sp_clear_L2]; exact h p (by omega)
  | k + 1, j, sr, sv, hj, h, p, hp => by
    rw [mm_Sp_clear_L2]
    refine gl_clear2 k (j + 1) _ _ (by omega) (fun q hq => ?_) p hp
    by_cases hqj : q = j
    · subst hqj; rw [pk_uLs, pk_uLs]; exact ⟨rfl, rfl⟩
    · rw [pk_uLn hqj, pk_uLn hqj]; exact h q (by omega)
theorem gl_clear (sr sv : Nat → Int64) : ∀ p, p < 6 → (mm_Sp_clear sr sv).1 p = 0 ∧ (mm_Sp_clear sr sv).2 p = 0 := gl_clear2 6 0 sr sv rfl (fun _ h => absurd h (Nat.not_lt_zero _))
theorem gl_V0 {D : Nat → Int64} {sr sv : Nat → Int64} (h : ∀ p, p < 6 → sr p = 0 ∧ sv p = 0) : gs_V D sr sv := by
  intro p hp
  rw [(h p hp).1, (h p hp).2, gy_d0 D 6 (fun q _ => gy_a0 q)]
theorem gl_P0 {sr sv : Nat → Int64} (h : ∀ p, p < 6 → sr p = 0 ∧ sv p = 0) : gs_P sr := fun p hp => Or.inl (h p hp).1
theorem gl_c0 {sr sv : Nat → Int64} (h : ∀ p, p < 6 → sr p = 0 ∧ sv p = 0) : ∀ N, N ≤ 6 → gi_c sr N = 0
  | 0, _ => rfl
  | N + 1, hN => by rw [gi_c, gl_c0 h N (by omega), if_pos (h N (by omega)).1]
theorem gl_tk {sr sr' : Nat → Int64} (hE : gl_E sr sr') : ∀ (k j : Nat) (v : Int64), j + k = 6 → gs_tk sr k j v = gs_tk sr' k j v
  | 0, _, _, _ => rfl
  | k + 1, j, v, hj => by rw [gs_tk, gs_tk, hE j (by omega), gl_tk hE k (j + 1) _ (by omega)]
theorem gl_upd {sr sr' : Nat → Int64} (hE : gl_E sr sr') (p : Nat) (r : Int64) : gl_E (vp_updL sr p r) (vp_updL sr' p r) := by
  intro q hq
  by_cases h : q = p
  · subst h; rw [pk_uLs, pk_uLs]
  · rw [pk_uLn h, pk_uLn h]; exact hE q hq
theorem gl_d {ro ro' : Nat → Int64} {x N : Nat} (hr : ∀ j, j < N → ro j = ro' j) : ∀ (k j : Nat) (sr sr' : Nat → Int64), j + k ≤ N → gl_E sr sr' → gl_E (gi_d ro x k j sr) (gi_d ro' x k j sr')
  | 0, j, sr, sr', _, hE => by rw [gi_d, gi_d]; exact hE
  | k + 1, j, sr, sr', hj, hE => by
    rw [gi_d, gi_d, hr j (by omega), gl_tk hE 6 0 _ rfl]
    split
    · split
      · exact gl_d hr k (j + 1) sr sr' (by omega) hE
      · exact gl_d hr k (j + 1) _ _ (by omega) (gl_upd hE _ _)
    · exact gl_d hr k (j + 1) sr sr' (by omega) hE
theorem gl_rest {sr sr' : Nat → Int64} (hE : gl_E sr sr') : ∀ (k j : Nat) (v : Int64), j + k = 6 → gs_rest sr k j v = gs_rest sr' k j v
  | 0, _, _, _ => rfl
  | k + 1, j, v, hj => by rw [gs_rest, gs_rest, hE j (by omega), gl_rest hE k (j + 1) _ (by omega)]
/-- the rows of the three kinds, as numbers -/
def gk_row (k j : Nat) : Int64 := match j with
  | 0 => 1
  | 1 => 256
  | 2 => 65536
  | 3 => 16777216
  | 4 => 4294967296
  | 5 => 1099511627776
  | 6 => if k = 0 then 187181534387629 else 65793
  | 7 => if k = 0 then 67804071505309 else 1103823372288
  | 8 => if k = 0 then 165328821524701 else 187181534387629
  | 9 => if k = 0 then 102901739281816 else 67804071505309
  | _ => 166675958018096
def gk_n (k : Nat) : Nat := if k = 2 then 11 else 10
def gk_k (x : Int32) : Nat := if x = 1 then 1 else if x = 2 then 2 else 0
/-- the others of shard i's group -/
def gk_g (k i : Nat) : Nat := if k = 0 then 0 else if i < 3 ∨ i = 6 then 71 - 2 ^ i else if i < 8 then 184 - 2 ^ i else if k = 2 then 1792 - 2 ^ i else 0
set_option maxRecDepth 100000 in
theorem gk_rows0 : ∀ j, j < 10 → ck_rows 0 10 0 (fun _ => 0) j = gk_row 0 j := by decide +kernel
set_option maxRecDepth 100000 in
theorem gk_rows1 : ∀ j, j < 10 → ck_rows 1 10 0 (fun _ => 0) j = gk_row 1 j := by decide +kernel
set_option maxRecDepth 100000 in
theorem gk_rows2 : ∀ j, j < 11 → ck_rows 1 11 0 (fun _ => 0) j = gk_row 2 j := by decide +kernel
set_option maxRecDepth 100000 in
theorem gk_loc : ∀ k, k < 3 → ∀ i, i < gk_n k → gk_g k i ≠ 0 → ∀ q, q < 6 → gy_a (gs_rest (gi_d (gk_row k) (gk_g k i) (gk_n k) 0 (fun _ => 0)) 6 0 (gk_row k i)) q = 0 := by decide +kernel
