-- ===== the turns of a place in their order: keys 8 * (1440 * DAY + minute) + number =====
def insS (x : Int) : List Int → List Int
  | [] => [x]
  | y :: l => if x < y then x :: y :: l else if x = y then y :: l else y :: insS x l
theorem mem_insS {x z : Int} : ∀ {l : List Int}, z ∈ insS x l ↔ z = x ∨ z ∈ l
  | [] => by simp [insS]
  | y :: l => by
    unfold insS
    split
    · simp
    · split
      · next h => subst h; simp
      · simp only [List.mem_cons, mem_insS (l := l)]
        constructor
        · rintro (h | h | h) <;> simp [h]
        · rintro (h | h | h) <;> simp [h]
theorem srt_insS {x : Int} : ∀ {l : List Int}, l.Pairwise (· < ·) → (insS x l).Pairwise (· < ·)
  | [], _ => by simp [insS]
  | y :: l, h => by
    have h1 := List.pairwise_cons.mp h
    unfold insS
    split
    · next g =>
      refine List.pairwise_cons.mpr ⟨fun z hz => ?_, h⟩
      rcases List.mem_cons.mp hz with q | q
      · omega
      · have := h1.1 z q; omega
    · split
      · exact h
      · refine List.pairwise_cons.mpr ⟨fun z hz => ?_, srt_insS h1.2⟩
        rcases mem_insS.mp hz with q | q
        · omega
        · exact h1.1 z q
abbrev ttE (T Pt : Nat → Nat → Int) (k : Nat) (y : Int) : Int := tTold (T k) (Pt k) y
def evA (T Pt : Nat → Nat → Int) (y : Int) : Nat → List Int → List Int
  | 0, l => l
  | n + 1, l => if ttE T Pt n y < 0 then evA T Pt y n l else insS (8 * ttE T Pt n y + n) (evA T Pt y n l)
def evL (T Pt : Nat → Nat → Int) (n : Nat) : Nat → List Int
  | 0 => []
  | q + 1 => evA T Pt (1900 + (q : Int)) n (evL T Pt n q)
theorem mem_evA {T Pt : Nat → Nat → Int} {y z : Int} {l : List Int} : ∀ {n : Nat}, z ∈ evA T Pt y n l ↔ z ∈ l ∨ ∃ k, k < n ∧ 0 ≤ ttE T Pt k y ∧ z = 8 * ttE T Pt k y + k
  | 0 => by simp [evA]
  | n + 1 => by
    unfold evA
    split
    · next h =>
      rw [mem_evA (n := n)]
      constructor
      · rintro (g | ⟨k, h1, h2⟩)
        · exact Or.inl g
        · exact Or.inr ⟨k, by omega, h2⟩
      · rintro (g | ⟨k, h1, h2, h3⟩)
        · exact Or.inl g
        · by_cases hk : k = n
          · subst hk; omega
          · exact Or.inr ⟨k, by omega, h2, h3⟩
    · next h =>
      rw [mem_insS, mem_evA (n := n)]
      constructor
      · rintro (g | g | ⟨k, h1, h2⟩)
        · exact Or.inr ⟨n, by omega, by omega, g⟩
        · exact Or.inl g
        · exact Or.inr ⟨k, by omega, h2⟩
      · rintro (g | ⟨k, h1, h2, h3⟩)
        · exact Or.inr (Or.inl g)
        · by_cases hk : k = n
          · subst hk; exact Or.inl h3
          · exact Or.inr (Or.inr ⟨k, by omega, h2, h3⟩)
theorem srt_evA {T Pt : Nat → Nat → Int} {y : Int} {l : List Int} (h : l.Pairwise (· < ·)) : ∀ {n : Nat}, (evA T Pt y n l).Pairwise (· < ·)
  | 0 => h
  | n + 1 => by
    unfold evA; split
    · exact srt_evA h
    · exact srt_insS (srt_evA h)
theorem mem_evL {T Pt : Nat → Nat → Int} {n : Nat} {z : Int} : ∀ {q : Nat}, z ∈ evL T Pt n q ↔ ∃ k, k < n ∧ ∃ j : Nat, j < q ∧ 0 ≤ ttE T Pt k (1900 + (j : Int)) ∧ z = 8 * ttE T Pt k (1900 + (j : Int)) + k
  | 0 => by simp [evL]
  | q + 1 => by
    unfold evL
    rw [mem_evA, mem_evL (q := q)]
    constructor
    · rintro (⟨k, h1, j, h2, h3⟩ | ⟨k, h1, h3⟩)
      · exact ⟨k, h1, j, by omega, h3⟩
      · exact ⟨k, h1, q, by omega, h3⟩
    · rintro ⟨k, h1, j, h2, h3⟩
      by_cases hj : j = q
      · subst hj; exact Or.inr ⟨k, h1, h3⟩
      · exact Or.inl ⟨k, h1, j, by omega, h3⟩
theorem srt_evL {T Pt : Nat → Nat → Int} {n : Nat} : ∀ {q : Nat}, (evL T Pt n q).Pairwise (· < ·)
  | 0 => List.Pairwise.nil
  | _ + 1 => srt_evA srt_evL
def evF (T Pt : Nat → Nat → Int) (n : Nat) : Nat → Int := fun i => (evL T Pt n 200).getD i 0
def evN (T Pt : Nat → Nat → Int) (n : Nat) : Nat := (evL T Pt n 200).length
/-- what the row of keys is, whoever made it -/
def evOK (T Pt : Nat → Nat → Int) (n : Nat) (L : Nat → Int) (N : Nat) : Prop :=
  (∀ i j, i < j → j < N → L i < L j) ∧ (∀ i, i < N → ∃ k, k < n ∧ ∃ y : Int, (1900 ≤ y ∧ y ≤ 2099) ∧ 0 ≤ ttE T Pt k y ∧ L i = 8 * ttE T Pt k y + k) ∧ (∀ k, k < n → ∀ y : Int, 1900 ≤ y ∧ y ≤ 2099 → 0 ≤ ttE T Pt k y → ∃ i, i < N ∧ L i = 8 * ttE T Pt k y + k)
theorem evF_ok (T Pt : Nat → Nat → Int) (n : Nat) : evOK T Pt n (evF T Pt n) (evN T Pt n) := by
  have hs := srt_evL (T := T) (Pt := Pt) (n := n) (q := 200)
  have hget : ∀ i, i < (evL T Pt n 200).length → (evL T Pt n 200)[i]? = some ((evL T Pt n 200).getD i 0) := fun i hi => by
    rw [List.getD_eq_getElem?_getD, List.getElem?_eq_getElem hi]; rfl
  refine ⟨fun i j hij hj => ?_, fun i hi => ?_, fun k hk y hy ht => ?_⟩
  · have hi : i < (evL T Pt n 200).length := Nat.lt_trans hij hj
    have := List.pairwise_iff_getElem.mp hs i j hi hj hij
    show (evL T Pt n 200).getD i 0 < (evL T Pt n 200).getD j 0
    rw [List.getD_eq_getElem?_getD, List.getD_eq_getElem?_getD, List.getElem?_eq_getElem hi, List.getElem?_eq_getElem hj]
    exact this
  · obtain ⟨k, hk, j, hj, h1, h2⟩ := mem_evL.mp (List.mem_of_getElem? (hget i hi))
    exact ⟨k, hk, 1900 + (j : Int), by omega, h1, h2⟩
  · have hm : (8 * ttE T Pt k y + k) ∈ evL T Pt n 200 := mem_evL.mpr ⟨k, hk, (y - 1900).toNat, by omega, by rw [show 1900 + ((y - 1900).toNat : Int) = y by omega]; exact ⟨ht, rfl⟩⟩
    obtain ⟨i, hi⟩ := List.getElem?_of_mem hm
    have hi2 : i < (evL T Pt n 200).length := (List.getElem?_eq_some_iff.mp hi).1
    exact ⟨i, hi2, Option.some.inj ((hget i hi2).symm.trans hi)⟩
theorem evOK_uniq {T Pt : Nat → Nat → Int} {n : Nat} {L L' : Nat → Int} {N N' : Nat} (h : evOK T Pt n L N) (h' : evOK T Pt n L' N') : N = N' ∧ ∀ i, i < N → L i = L' i := by
  have key : ∀ {L L' : Nat → Int} {N N' : Nat}, evOK T Pt n L N → evOK T Pt n L' N' → ∀ i, i < N → i < N' ∧ L i = L' i := by
    intro L L' N N' h h' i
    induction i using Nat.strongRecOn with
    | _ i ih =>
      intro hi
      obtain ⟨k, hk, y, hy, ht, he⟩ := h.2.1 i hi
      obtain ⟨j, hj, hje⟩ := h'.2.2 k hk y hy ht
      have hij : i ≤ j := by
        rcases Nat.lt_or_ge j i with q | q
        · have := ih j q (by omega)
          have := h.1 j i q hi
          omega
        · exact q
      refine ⟨by omega, ?_⟩
      obtain ⟨k2, hk2, y2, hy2, ht2, he2⟩ := h'.2.1 i (by omega)
      obtain ⟨j2, hj2, hje2⟩ := h.2.2 k2 hk2 y2 hy2 ht2
      have h3 : i ≤ j2 := by
        rcases Nat.lt_or_ge j2 i with q | q
        · have := ih j2 q hj2
          have := h'.1 j2 i q (by omega)
          omega
        · exact q
      have h4 : L' i ≤ L' j := by
        rcases Nat.lt_or_ge i j with q | q
        · have := h'.1 i j q hj; omega
        · rw [show i = j by omega]; omega
      have h5 : L i ≤ L j2 := by
        rcases Nat.lt_or_ge i j2 with q | q
        · have := h.1 i j2 q hj2; omega
        · rw [show i = j2 by omega]; omega
      omega
  have e : N = N' := by
    rcases Nat.lt_trichotomy N N' with q | q | q
    · have := key h' h N q; omega
    · exact q
    · have := key h h' N' q; omega
  exact ⟨e, fun i hi => (key h h' i hi).2⟩
/-- the moment and the saving behind the first j of them -/
def stF (T : Nat → Nat → Int) (base : Int) (L : Nat → Int) : Nat → Int × Int
  | 0 => (-1020, 0)
  | j + 1 => (max (stF T base L j).1 (tMom (T (L j % 8).toNat) (L j / 8) base (stF T base L j).2), T (L j % 8).toNat 5)
theorem stF_congr {T : Nat → Nat → Int} {base : Int} {L L' : Nat → Int} : ∀ (j : Nat), (∀ i, i < j → L i = L' i) → stF T base L j = stF T base L' j
  | 0, _ => rfl
  | j + 1, h => by
    unfold stF
    rw [stF_congr j (fun i hi => h i (by omega)), h j (by omega)]
theorem stF_mono {T : Nat → Nat → Int} {base : Int} {L : Nat → Int} {i j : Nat} (h : i ≤ j) : (stF T base L i).1 ≤ (stF T base L j).1 := by
  induction j with
  | zero => rw [show i = 0 by omega]; omega
  | succ j ih =>
    by_cases hij : i = j + 1
    · rw [hij]; omega
    · have := ih (by omega)
      have : (stF T base L j).1 ≤ (stF T base L (j + 1)).1 := by show _ ≤ max _ _; omega
      omega
/-- how many of n moments are not behind m -/
def hcE (mo : Nat → Int) (m : Int) : Nat → Nat
  | 0 => 0
  | n + 1 => hcE mo m n + (if mo n ≤ m then 1 else 0)
theorem hcE_is {mo : Nat → Int} {m : Int} {h : Nat} : ∀ {n : Nat}, h ≤ n → (∀ i, i < h → mo i ≤ m) → (∀ i, h ≤ i → i < n → m < mo i) → hcE mo m n = h
  | 0, h0, _, _ => by simp [hcE]; omega
  | n + 1, h0, h1, h2 => by
    unfold hcE
    by_cases hn : h = n + 1
    · rw [hcE_is (h := n) (n := n) (by omega) (fun i hi => h1 i (by omega)) (fun i a b => by omega), if_pos (h1 n (by omega))]; omega
    · rw [hcE_is (h := h) (n := n) (by omega) h1 (fun i a b => h2 i a (by omega)), if_neg (by have := h2 n (by omega) (by omega); omega)]; omega
theorem hcE_spec {mo : Nat → Int} (hm : ∀ i j, i ≤ j → mo i ≤ mo j) {m : Int} : ∀ {n : Nat}, hcE mo m n ≤ n ∧ (∀ i, i < hcE mo m n → mo i ≤ m) ∧ (∀ i, hcE mo m n ≤ i → i < n → m < mo i)
  | 0 => ⟨Nat.le_refl _, fun i h => by simp [hcE] at h, fun i _ h => by omega⟩
  | n + 1 => by
    obtain ⟨h1, h2, h3⟩ := hcE_spec hm (m := m) (n := n)
    unfold hcE
    split
    · next h =>
      have e : hcE mo m n = n := by
        rcases Nat.lt_or_ge (hcE mo m n) n with q | q
        · have := h3 (hcE mo m n) (by omega) q
          have := hm (hcE mo m n) n (by omega)
          omega
        · omega
      rw [e]
      refine ⟨by omega, fun i hi => ?_, fun i a b => by omega⟩
      have := hm i n (by omega)
      omega
    · next h => exact ⟨by omega, h2, fun i a b => by
        by_cases hi : i = n
        · subst hi; omega
        · exact h3 i a (by omega)⟩
abbrev moE (T : Nat → Nat → Int) (base : Int) (L : Nat → Int) : Nat → Int := fun j => (stF T base L (j + 1)).1
theorem moE_mono {T : Nat → Nat → Int} {base : Int} {L : Nat → Int} : ∀ i j, i ≤ j → moE T base L i ≤ moE T base L j := fun _ _ h => stF_mono (by omega)
/-- the saving at a moment, behind the first j turns of the row -/
def savJ (T : Nat → Nat → Int) (base : Int) (L : Nat → Int) (j : Nat) (m : Int) : Int := (stF T base L (hcE (moE T base L) m j)).2
def sav (T Pt : Nat → Nat → Int) (n : Nat) (base : Int) (m : Int) : Int := savJ T base (evF T Pt n) (evN T Pt n) m
theorem savJ_rng {T : Nat → Nat → Int} {base : Int} {L : Nat → Int} (hT : ∀ i, 0 ≤ T (L i % 8).toNat 5 ∧ T (L i % 8).toNat 5 ≤ 180) (j : Nat) (m : Int) : 0 ≤ savJ T base L j m ∧ savJ T base L j m ≤ 180 := by
  unfold savJ
  cases hcE (moE T base L) m j with
  | zero => simp [stF]
  | succ q => exact hT q
/-- pieces: begins B, savings S, c of them, that tell sv -/
def prep (B S : Nat → Int) (c : Int) (sv : Int → Int) : Prop :=
  (1 ≤ c ∧ c ≤ 1201) ∧ B 0 = 0 ∧ (∀ i : Nat, (i : Int) + 1 < c → B i < B (i + 1)) ∧ (∀ i : Nat, (i : Int) < c → (0 ≤ B i ∧ B i ≤ 105190559) ∧ 0 ≤ S i ∧ S i ≤ 180) ∧ (∀ i : Nat, (i : Int) < c → ∀ m, B i ≤ m → m ≤ 105190559 → ((i : Int) + 1 < c → m < B (i + 1)) → sv m = S i)
theorem prep.congr {B S B' S' : Nat → Int} {c : Int} {sv sv' : Int → Int} (h : prep B S c sv) (hB : ∀ i : Nat, (i : Int) < c → B' i = B i) (hS : ∀ i : Nat, (i : Int) < c → S' i = S i) (hv : ∀ m, 0 ≤ m → m ≤ 105190559 → sv' m = sv m) : prep B' S' c sv' := by
  obtain ⟨h1, h2, h3, h4, h5⟩ := h
  refine ⟨h1, by rw [hB 0 (by omega)]; exact h2, fun i hi => by rw [hB i (by omega), hB (i + 1) (by omega)]; exact h3 i hi, fun i hi => by rw [hB i hi, hS i hi]; exact h4 i hi, fun i hi m g1 g2 g3 => ?_⟩
  rw [hB i hi] at g1
  have := (h4 i hi).1
  rw [hv m (by omega) g2, hS i hi]
  exact h5 i hi m g1 g2 (fun q => by have := g3 q; rw [hB (i + 1) (by omega)] at this; exact this)
theorem prep_mono {B S : Nat → Int} {c : Int} {sv : Int → Int} (h : prep B S c sv) {i j : Nat} (hij : i < j) (hj : (j : Int) < c) : B i < B j := by
  induction j with
  | zero => omega
  | succ j ih =>
    have := h.2.2.1 j (by omega)
    by_cases q : i = j
    · subst q; exact this
    · have := ih (by omega) (by omega); omega
/-- the pieces behind j turns -/
def pinv (T : Nat → Nat → Int) (base : Int) (L : Nat → Int) (B S : Nat → Int) (c : Int) (j : Nat) : Prop := prep B S c (savJ T base L j) ∧ c ≤ (j : Int) + 1 ∧ B (c - 1).toNat ≤ max 0 (stF T base L j).1
theorem pinv_0 {T : Nat → Nat → Int} {base : Int} {L B S : Nat → Int} (hB : B 0 = 0) (hS : S 0 = 0) : pinv T base L B S 1 0 := by
  refine ⟨⟨by omega, hB, fun i h => by omega, fun i h => ?_, fun i h m h1 h2 h3 => ?_⟩, by omega, by show B 0 ≤ max 0 (-1020); rw [hB]; omega⟩
  · rw [show i = 0 by omega, hB, hS]; omega
  · rw [show i = 0 by omega, hS]; rfl
theorem hcE_lt {mo : Nat → Int} {m : Int} {j : Nat} (h : m < mo j) : hcE mo m (j + 1) = hcE mo m j := by
  show hcE mo m j + _ = _
  rw [if_neg (by omega)]; omega
theorem hcE_all {mo : Nat → Int} (hm : ∀ i j, i ≤ j → mo i ≤ mo j) {m : Int} {j : Nat} (h : mo j ≤ m) : hcE mo m (j + 1) = j + 1 :=
  hcE_is (Nat.le_refl _) (fun i hi => by have := hm i j (by omega); omega) (fun i a b => by omega)
/-- a turn more: what addPiece does -/
theorem pinv_step {T : Nat → Nat → Int} {base : Int} {L B S B' S' : Nat → Int} {c c' : Int} {j : Nat} (h : pinv T base L B S c j) (hj : (j : Int) < 1200) (hT : 0 ≤ T (L j % 8).toNat 5 ∧ T (L j % 8).toNat 5 ≤ 180)
    (hc : if 105190559 < moE T base L j then c' = c ∧ B' = B ∧ S' = S else
      ∃ w : Int, w = (if B (c - 1).toNat = max (moE T base L j) 0 then c - 1 else c) ∧ c' = w + 1 ∧ B' w.toNat = max (moE T base L j) 0 ∧ S' w.toNat = T (L j % 8).toNat 5 ∧ (∀ i : Nat, i ≠ w.toNat → B' i = B i ∧ S' i = S i)) : pinv T base L B' S' c' (j + 1) := by
  obtain ⟨⟨h1, h2, h3, h4, h5⟩, h6, h7⟩ := h
  have hm1 : (stF T base L j).1 ≤ moE T base L j := stF_mono (by omega)
  have hsv2 : ∀ m, moE T base L j ≤ m → savJ T base L (j + 1) m = T (L j % 8).toNat 5 := fun m hm => by
    unfold savJ; rw [hcE_all moE_mono hm]; rfl
  have hsv1 : ∀ m, m < moE T base L j → savJ T base L (j + 1) m = savJ T base L j m := fun m hm => by
    unfold savJ; rw [hcE_lt hm]
  by_cases hb : 105190559 < moE T base L j
  · rw [if_pos hb] at hc
    obtain ⟨rfl, rfl, rfl⟩ := hc
    refine ⟨⟨h1, h2, h3, h4, fun i hi m g1 g2 g3 => ?_⟩, by omega, ?_⟩
    · rw [hsv1 m (by omega)]; exact h5 i hi m g1 g2 g3
    · show _ ≤ max 0 (moE T base L j); omega
  · rw [if_neg hb] at hc
    obtain ⟨w, hw, rfl, hB, hS, ho⟩ := hc
    have hlast := (h4 (c - 1).toNat (by omega)).1
    by_cases hs : B (c - 1).toNat = max (moE T base L j) 0
    · rw [if_pos hs] at hw
      have hBall : ∀ i : Nat, B' i = B i := fun i => by
        by_cases hi : i = w.toNat
        · rw [hi, hB, ← hs, hw]
        · exact (ho i hi).1
      subst hw
      refine ⟨⟨by omega, by rw [hBall]; exact h2, fun i hi => by rw [hBall, hBall]; exact h3 i (by omega), fun i hi => ?_, fun i hi m g1 g2 g3 => ?_⟩, by omega, ?_⟩
      · rw [hBall]
        refine ⟨(h4 i (by omega)).1, ?_⟩
        by_cases q : i = (c - 1).toNat
        · rw [q, hS]; exact hT
        · rw [(ho i q).2]; exact (h4 i (by omega)).2
      · rw [hBall] at g1
        by_cases q : i = (c - 1).toNat
        · rw [q, hS]
          rw [q] at g1
          exact hsv2 m (by omega)
        · have g4 := g3 (by omega)
          rw [hBall] at g4
          have g5 : B (i + 1) ≤ B (c - 1).toNat := by
            by_cases q2 : i + 1 = (c - 1).toNat
            · rw [q2]; omega
            · have := prep_mono (B := B) (S := S) (c := c) (sv := savJ T base L j) ⟨h1, h2, h3, h4, h5⟩ (i := i + 1) (j := (c - 1).toNat) (by omega) (by omega); omega
          have g6 := (h4 i (by omega)).1
          rw [(ho i q).2, hsv1 m (by omega)]
          exact h5 i (by omega) m g1 g2 (fun _ => g4)
      · rw [show (c - 1 + 1 - 1).toNat = (c - 1).toNat by omega, hB]
        show _ ≤ max 0 (moE T base L j); omega
    · rw [if_neg hs] at hw
      subst hw
      have hlt : B (w - 1).toNat < max (moE T base L j) 0 := by omega
      have hold : ∀ i : Nat, (i : Int) < w → B' i = B i ∧ S' i = S i := fun i hi => ho i (by omega)
      refine ⟨⟨by omega, by rw [(hold 0 (by omega)).1]; exact h2, fun i hi => ?_, fun i hi => ?_, fun i hi m g1 g2 g3 => ?_⟩, by omega, ?_⟩
      · rw [(hold i (by omega)).1]
        by_cases q : (i : Int) + 1 = w
        · rw [show i + 1 = w.toNat by omega, hB, show i = (w - 1).toNat by omega]; exact hlt
        · rw [(hold (i + 1) (by omega)).1]; exact h3 i (by omega)
      · by_cases q : (i : Int) = w
        · rw [show i = w.toNat by omega, hB, hS]; exact ⟨by omega, hT⟩
        · rw [(hold i (by omega)).1, (hold i (by omega)).2]; exact h4 i (by omega)
      · by_cases q : (i : Int) = w
        · rw [show i = w.toNat by omega] at g1 ⊢
          rw [hB] at g1
          rw [hS]
          exact hsv2 m (by omega)
        · rw [(hold i (by omega)).1] at g1
          rw [(hold i (by omega)).2]
          have g4 := g3 (by omega)
          by_cases q2 : (i : Int) + 1 = w
          · rw [show i + 1 = w.toNat by omega, hB] at g4
            have g6 := (h4 i (by omega)).1
            rw [hsv1 m (by omega)]
            exact h5 i (by omega) m g1 g2 (fun g => by omega)
          · rw [(hold (i + 1) (by omega)).1] at g4
            have g5 : B (i + 1) ≤ B (w - 1).toNat := by
              by_cases q3 : i + 1 = (w - 1).toNat
              · rw [q3]; omega
              · have := prep_mono (B := B) (S := S) (c := w) (sv := savJ T base L j) ⟨h1, h2, h3, h4, h5⟩ (i := i + 1) (j := (w - 1).toNat) (by omega) (by omega); omega
            have g6 := (h4 i (by omega)).1
            rw [hsv1 m (by omega)]
            exact h5 i (by omega) m g1 g2 (fun _ => g4)
      · rw [show (w + 1 - 1).toNat = w.toNat by omega, hB]
        show _ ≤ max 0 (moE T base L j); omega
