-- ===== heaps =====
theorem Swp.upd {lo h9 hi : Int} {F0 G G' : Nat → Int} (h : Swp lo h9 G G') {k : Nat} {m : Int} (hk : h9 ≤ k) (hle : h9 ≤ hi) (h0 : Swp lo hi F0 (updF G k m)) : Swp lo hi F0 (updF G' k m) :=
  h (fun G' => Swp lo hi F0 (updF G' k m)) h0 (fun G i j ih h1 h2 => by
    have e := ih.step (i := i) (j := j) ⟨h1.1, by omega⟩ ⟨h2.1, by omega⟩
    rw [updF_o (show i ≠ k by omega), updF_o (show j ≠ k by omega)] at e
    have : updF (updF (updF G k m) i (G j)) j (G i) = updF (updF (updF G i (G j)) j (G i)) k m := by
      funext x
      by_cases g1 : x = k
      · subst g1
        rw [updF_s, updF_o (show x ≠ j by omega), updF_o (show x ≠ i by omega), updF_s]
      · rw [updF_o (k := x) (i := k) g1]
        by_cases g2 : x = j
        · subst g2; rw [updF_s, updF_s]
        · rw [updF_o g2, updF_o g2]
          by_cases g3 : x = i
          · subst g3; rw [updF_s, updF_s]
          · rw [updF_o g3, updF_o g3, updF_o g1]
    rw [this] at e; exact e)
theorem heap_max {lo hi : Int} {F : Nat → Int} (h0 : 0 ≤ lo) (hH : ∀ u c : Nat, lo ≤ u → ((c : Int) = 2 * u - lo + 1 ∨ (c : Int) = 2 * u - lo + 2) → (c : Int) < hi → F c ≤ F u) : ∀ (n c : Nat), c < n → lo ≤ c → (c : Int) < hi → F c ≤ F lo.toNat
  | 0, _, h, _, _ => absurd h (Nat.not_lt_zero _)
  | n + 1, c, h, h1, h2 => by
    by_cases g : (c : Int) = lo
    · rw [show c = lo.toNat by omega]; exact Int.le_refl _
    · have hu : (((c : Int) - lo - 1) / 2 + lo).toNat < c := by omega
      exact Int.le_trans (hH (((c : Int) - lo - 1) / 2 + lo).toNat c (by omega) (by omega) h2) (heap_max h0 hH n _ (by omega) (by omega) (by omega))
