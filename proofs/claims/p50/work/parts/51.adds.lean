-- ===== a pattern or an exception more of a series =====
def exaM (M : zM) (n : Nat) (d : Int) : zM := up2 (up2 M 19 (8 * n + (serM M n 10).toNat) d) 17 (11 * n + 10) (serM M n 10 + 1)
def usaM (M : zM) (n : Nat) (a : Int) : zM := up2 (up2 M 18 (4 * n + (serM M n 9).toNat) a) 17 (11 * n + 9) (serM M n 9 + 1)
theorem serM_f {M M' : zM} (h : M' 17 = M 17) (n : Nat) : serM M' n = serM M n := by unfold serM; rw [h]
theorem exaM_ser {M : zM} {n : Nat} {d : Int} (j : Nat) : serM (exaM M n d) n j = if j = 10 then serM M n 10 + 1 else serM M n j := by
  unfold exaM; rw [serM_sam (by decide) j, serM_f (M := M) (up2_o (by decide))]
theorem exaM_oth {M : zM} {n k : Nat} {d : Int} (hk : k ≠ n) (hm : 0 ≤ serM M n 10 ∧ serM M n 10 < 8) : serM (exaM M n d) k = serM M k ∧ useM (exaM M n d) k = useM M k ∧ excM (exaM M n d) k = excM M k := by
  unfold exaM
  refine ⟨by rw [serM_oth (by decide) hk, serM_f (M := M) (up2_o (by decide))], ?_, ?_⟩
  · refine useM_f (by rw [up2_o (by decide), up2_o (by decide)]) (fun j => ?_) k
    rw [patM_17]; exact patM_eq (up2_o (by decide)) (up2_o (by decide)) (up2_o (by decide)) j
  · rw [excM_f (M := up2 M 19 (8 * n + (serM M n 10).toNat) d) (up2_o (by decide))]
    funext j; unfold excM
    split
    · rw [up2_k (by omega)]
    · rfl
theorem exaM_use {M : zM} {n k : Nat} {d : Int} : useM (exaM M n d) k = useM M k := by
  unfold exaM
  refine useM_f (by rw [up2_o (by decide), up2_o (by decide)]) (fun j => ?_) k
  rw [patM_17]; exact patM_eq (up2_o (by decide)) (up2_o (by decide)) (up2_o (by decide)) j
theorem exaM_exc {M : zM} {n : Nat} {d : Int} (hm : 0 ≤ serM M n 10 ∧ serM M n 10 < 8) (j : Nat) : excM (exaM M n d) n j = if j = (serM M n 10).toNat then d else excM M n j := by
  unfold exaM
  rw [excM_f (M := up2 M 19 (8 * n + (serM M n 10).toNat) d) (up2_o (by decide))]
  unfold excM
  by_cases h : j = (serM M n 10).toNat
  · rw [if_pos (by omega), if_pos h, ← h, up2_s]
  · rw [if_neg (c := j = _) h]
    split
    · rw [up2_k (by omega)]
    · rfl
theorem usaM_ser {M : zM} {n : Nat} {a : Int} (j : Nat) : serM (usaM M n a) n j = if j = 9 then serM M n 9 + 1 else serM M n j := by
  unfold usaM; rw [serM_sam (by decide) j, serM_f (M := M) (up2_o (by decide))]
theorem usaM_pat {M : zM} {n : Nat} {a : Int} (k : Nat) : patM (usaM M n a) k = patM M k := by
  unfold usaM; rw [patM_17]; exact patM_eq (up2_o (by decide)) (up2_o (by decide)) (up2_o (by decide)) k
theorem usaM_exc {M : zM} {n k : Nat} {a : Int} : excM (usaM M n a) k = excM M k := by
  unfold usaM; exact excM_f (by rw [up2_o (by decide), up2_o (by decide)]) k
theorem usaM_use {M : zM} {n : Nat} {a : Int} (hm : 0 ≤ serM M n 9 ∧ serM M n 9 < 4) (j : Nat) : useM (usaM M n a) n j = if j = (serM M n 9).toNat then patM M a.toNat else useM M n j := by
  unfold useM
  have e18 : usaM M n a 18 = up2 M 18 (4 * n + (serM M n 9).toNat) a 18 := by unfold usaM; rw [up2_o (by decide)]
  by_cases h : j = (serM M n 9).toNat
  · rw [if_pos (by omega), if_pos h, e18, ← h, up2_s, usaM_pat]
  · rw [if_neg (c := j = _) h]
    split
    · rw [e18, up2_k (by omega), usaM_pat]
    · rfl
theorem usaM_oth {M : zM} {n k : Nat} {a : Int} (hk : k ≠ n) (hm : 0 ≤ serM M n 9 ∧ serM M n 9 < 4) : serM (usaM M n a) k = serM M k ∧ useM (usaM M n a) k = useM M k ∧ excM (usaM M n a) k = excM M k := by
  refine ⟨by unfold usaM; rw [serM_oth (by decide) hk, serM_f (M := M) (up2_o (by decide))], ?_, usaM_exc⟩
  have e18 : usaM M n a 18 = up2 M 18 (4 * n + (serM M n 9).toNat) a 18 := by unfold usaM; rw [up2_o (by decide)]
  funext j; unfold useM
  split
  · rw [e18, up2_k (by omega), usaM_pat]
  · rfl
theorem exaM_f {M : zM} {n f : Nat} {d : Int} (h17 : f ≠ 17) (h19 : f ≠ 19) : exaM M n d f = M f := by unfold exaM; rw [up2_o h17, up2_o h19]
theorem usaM_f {M : zM} {n f : Nat} {a : Int} (h17 : f ≠ 17) (h18 : f ≠ 18) : usaM M n a f = M f := by unfold usaM; rw [up2_o h17, up2_o h18]
def cdExc (M : zM) (a d : Int) : Int := if (0 ≤ a ∧ a < M 40 16) ∧ 0 ≤ d ∧ d ≤ 73048 then (if exV (excM M a.toNat) d (serM M a.toNat 10).toNat = 1 then 0 else if serM M a.toNat 10 = 8 then 2 else 0) else 1
def cdUse (M : zM) (a b : Int) : Int := if (0 ≤ a ∧ a < M 40 16) ∧ 0 ≤ b ∧ b < M 40 1 then (if serM M a.toNat 9 = 4 then 2 else 0) else 1
def vlExc (M : zM) (a d : Int) : Int := if exV (excM M a.toNat) d (serM M a.toNat 10).toNat = 1 then serM M a.toNat 10 else serM M a.toNat 10 + 1
def nxExc (M : zM) (a d : Int) : zM := if exV (excM M a.toNat) d (serM M a.toNat 10).toNat = 1 then M else exaM M a.toNat d
def cdAdp (M : zM) (mo ki nu : Int) : Int := if (0 ≤ mo ∧ mo ≤ 12) ∧ (0 ≤ ki ∧ ki ≤ 16) ∧ (1 ≤ nu ∧ nu ≤ (if ki < 2 then 31 else if ki < 16 then 5 else 200)) ∧ (ki = 16 → mo = 0) then (if M 40 1 = 24 then 2 else 0) else 1
def cdApl (M : zM) (b : Int) : Int := if -840 ≤ b ∧ b ≤ 840 then (if M 40 5 = 6 then 2 else 0) else 1
def cdAtu (M : zM) (a fy ly b mn cl sv : Int) : Int := if (0 ≤ a ∧ a < M 40 5) ∧ 0 ≤ b ∧ b < M 40 1 then (if ((1900 ≤ fy ∧ fy ≤ 2099) ∧ fy ≤ ly ∧ ly ≤ 2099) ∧ ((0 ≤ mn ∧ mn ≤ 1439) ∧ (0 ≤ cl ∧ cl ≤ 2) ∧ 0 ≤ sv ∧ sv ≤ 180) ∧ (patM M b.toNat 0 ≠ 0 ∨ patM M b.toNat 1 = 16) then (if M 7 a.toNat = 6 then 3 else 0) else 2) else 1
def cdAse (M : zM) (a bg ki st wd : Int) : Int := if 0 ≤ a ∧ a < M 40 5 then (if (0 ≤ bg ∧ bg ≤ 105190559) ∧ (0 ≤ ki ∧ ki ≤ 3) ∧ (1 ≤ st ∧ st ≤ 60) ∧ 0 ≤ wd ∧ wd ≤ 127 then (if M 40 16 = 6 then 3 else 0) else 2) else 1
def cdAfe (M : zM) (fy ly b wy : Int) : Int := if 0 ≤ b ∧ b < M 40 1 then (if ((1900 ≤ fy ∧ fy ≤ 2099) ∧ fy ≤ ly ∧ ly ≤ 2099) ∧ 0 ≤ wy ∧ wy ≤ 3 then (if M 40 29 = 20 then 3 else 0) else 2) else 1
