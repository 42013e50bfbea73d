-- ===== sorting: a row made of another by exchanges within lo .. hi =====
def updF (F : Nat → Int) (i : Nat) (v : Int) : Nat → Int := fun k => if k = i then v else F k
theorem updF_s {F : Nat → Int} {i : Nat} {v : Int} : updF F i v i = v := if_pos rfl
theorem updF_o {F : Nat → Int} {i k : Nat} {v : Int} (h : k ≠ i) : updF F i v k = F k := if_neg h
theorem updF_self {F : Nat → Int} {i : Nat} : updF F i (F i) = F := by
  funext k; unfold updF; split
  · rename_i h; rw [h]
  · rfl
theorem up2_row {X : zX} {a i : Nat} {v : Int} : up2 X a i v a = updF (X a) i v := by
  funext k; rw [up2_eq]; unfold updF
  by_cases h : k = i
  · rw [if_pos ⟨rfl, h⟩, if_pos h]
  · rw [if_neg (fun g => h g.2), if_neg h]
def Swp (lo hi : Int) (F G : Nat → Int) : Prop := ∀ P : (Nat → Int) → Prop, P F → (∀ (G : Nat → Int) (i j : Nat), P G → (lo ≤ i ∧ (i : Int) < hi) → (lo ≤ j ∧ (j : Int) < hi) → P (updF (updF G i (G j)) j (G i))) → P G
theorem Swp.refl {lo hi : Int} {F : Nat → Int} : Swp lo hi F F := fun _ h _ => h
theorem Swp.step {lo hi : Int} {F G : Nat → Int} {i j : Nat} (h : Swp lo hi F G) (h1 : lo ≤ i ∧ (i : Int) < hi) (h2 : lo ≤ j ∧ (j : Int) < hi) : Swp lo hi F (updF (updF G i (G j)) j (G i)) := fun P h0 hs => hs _ _ _ (h P h0 hs) h1 h2
theorem Swp.out {lo hi : Int} {F G : Nat → Int} (h : Swp lo hi F G) {k : Nat} (hk : (k : Int) < lo ∨ hi ≤ k) : G k = F k :=
  h (fun G => G k = F k) rfl (fun G i j ih h1 h2 => by rw [updF_o (by omega), updF_o (by omega)]; exact ih)
theorem Swp.vals {lo hi : Int} {F G : Nat → Int} (h : Swp lo hi F G) : ∀ k : Nat, lo ≤ k → (k : Int) < hi → ∃ m : Nat, lo ≤ m ∧ (m : Int) < hi ∧ G k = F m :=
  h (fun G => ∀ k : Nat, lo ≤ k → (k : Int) < hi → ∃ m : Nat, lo ≤ m ∧ (m : Int) < hi ∧ G k = F m) (fun k h1 h2 => ⟨k, h1, h2, rfl⟩) (fun G i j ih h1 h2 k g1 g2 => by
    by_cases hj : k = j
    · subst hj; rw [updF_s]; exact ih i h1.1 h1.2
    · rw [updF_o hj]
      by_cases hi : k = i
      · subst hi; rw [updF_s]; exact ih j h2.1 h2.2
      · rw [updF_o hi]; exact ih k g1 g2)
theorem Swp.back {lo hi : Int} {F G : Nat → Int} (h : Swp lo hi F G) : ∀ m : Nat, lo ≤ m → (m : Int) < hi → ∃ k : Nat, lo ≤ k ∧ (k : Int) < hi ∧ G k = F m :=
  h (fun G => ∀ m : Nat, lo ≤ m → (m : Int) < hi → ∃ k : Nat, lo ≤ k ∧ (k : Int) < hi ∧ G k = F m) (fun k h1 h2 => ⟨k, h1, h2, rfl⟩) (fun G i j ih h1 h2 m g1 g2 => by
    obtain ⟨k, k1, k2, k3⟩ := ih m g1 g2
    by_cases hki : k = i
    · subst hki; exact ⟨j, h2.1, h2.2, by rw [updF_s]; exact k3⟩
    · by_cases hkj : k = j
      · subst hkj
        by_cases hij : i = k
        · subst hij; exact ⟨i, h1.1, h1.2, by rw [updF_s]; exact k3⟩
        · exact ⟨i, h1.1, h1.2, by rw [updF_o hij, updF_s]; exact k3⟩
      · exact ⟨k, k1, k2, by rw [updF_o hkj, updF_o hki]; exact k3⟩)
theorem Swp.inj {lo hi : Int} {F G : Nat → Int} (h : Swp lo hi F G) (hF : ∀ i j : Nat, lo ≤ i → (i : Int) < hi → lo ≤ j → (j : Int) < hi → F i = F j → i = j) : ∀ i j : Nat, lo ≤ i → (i : Int) < hi → lo ≤ j → (j : Int) < hi → G i = G j → i = j :=
  h (fun G => ∀ i j : Nat, lo ≤ i → (i : Int) < hi → lo ≤ j → (j : Int) < hi → G i = G j → i = j) hF (fun G i j ih h1 h2 p q p1 p2 q1 q2 e => by
    have val : ∀ k : Nat, updF (updF G i (G j)) j (G i) k = G (if k = j then i else if k = i then j else k) := fun k => by
      by_cases g1 : k = j
      · subst g1; rw [updF_s, if_pos rfl]
      · rw [updF_o g1, if_neg g1]
        by_cases g2 : k = i
        · subst g2; rw [updF_s, if_pos rfl]
        · rw [updF_o g2, if_neg g2]
    rw [val, val] at e
    have rng : ∀ k : Nat, lo ≤ k → (k : Int) < hi → lo ≤ ((if k = j then i else if k = i then j else k : Nat) : Int) ∧ ((if k = j then i else if k = i then j else k : Nat) : Int) < hi := fun k k1 k2 => by
      by_cases g1 : k = j
      · rw [if_pos g1]; exact h1
      · rw [if_neg g1]
        by_cases g2 : k = i
        · rw [if_pos g2]; exact h2
        · rw [if_neg g2]; exact ⟨k1, k2⟩
    have e2 := ih _ _ (rng p p1 p2).1 (rng p p1 p2).2 (rng q q1 q2).1 (rng q q1 q2).2 e
    (repeat' split at e2) <;> omega)
theorem Swp.trans {lo hi : Int} {F G H : Nat → Int} (h : Swp lo hi F G) (h2 : Swp lo hi G H) : Swp lo hi F H := h2 (Swp lo hi F) h (fun _ _ _ ih g1 g2 => ih.step g1 g2)
theorem Swp.wide {lo hi lo' hi' : Int} {F G : Nat → Int} (h : Swp lo hi F G) (h1 : lo' ≤ lo) (h2 : hi ≤ hi') : Swp lo' hi' F G := h (Swp lo' hi' F) .refl (fun _ _ _ ih g1 g2 => ih.step ⟨by omega, by omega⟩ ⟨by omega, by omega⟩)
/-- a value is held out of i; i is filled out of j -/
theorem Swp.move {lo hi : Int} {F G : Nat → Int} {i j : Nat} {v : Int} (h : Swp lo hi F (updF G i v)) (h1 : lo ≤ i ∧ (i : Int) < hi) (h2 : lo ≤ j ∧ (j : Int) < hi) (hij : j ≠ i) : Swp lo hi F (updF (updF G i (G j)) j v) := by
  have e := h.step h1 h2
  rw [updF_s, updF_o hij] at e
  have : updF (updF (updF G i v) i (G j)) j v = updF (updF G i (G j)) j v := by
    funext k
    by_cases g1 : k = j
    · subst g1; rw [updF_s, updF_s]
    · rw [updF_o g1, updF_o g1]
      by_cases g2 : k = i
      · subst g2; rw [updF_s, updF_s]
      · rw [updF_o g2, updF_o g2, updF_o g2]
  rw [this] at e; exact e
def srtR (lo hi : Int) (F : Nat → Int) : Prop := ∀ i j : Nat, lo ≤ i → i ≤ j → (j : Int) < hi → F i ≤ F j
