theorem tsw47 {v : Int} (h : 0 ≤ v) : v = 0 ∨ v = 1 ∨ v = 2 ∨ v = 3 ∨ v = 4 ∨ v = 5 ∨ v = 6 ∨ v = 7 ∨ v = 8 ∨ v = 9 ∨ v = 10 ∨ v = 11 ∨ v = 12 ∨ v = 13 ∨ v = 14 ∨ v = 15 ∨ v = 16 ∨ v = 17 ∨ v = 18 ∨ v = 19 ∨ v = 20 ∨ v = 21 ∨ v = 22 ∨ v = 23 ∨ v = 24 ∨ v = 25 ∨ v = 26 ∨ v = 27 ∨ v = 28 ∨ v = 29 ∨ v = 30 ∨ v = 31 ∨ v = 32 ∨ v = 33 ∨ v = 34 ∨ v = 35 ∨ v = 36 ∨ v = 37 ∨ v = 38 ∨ v = 39 ∨ v = 40 ∨ v = 41 ∨ v = 42 ∨ v = 43 ∨ v = 44 ∨ v = 45 ∨ v = 46 ∨ (v < 0 ∨ 46 < v) := by omega
set_option maxHeartbeats 4000000 in
set_option maxRecDepth 100000 in
/-- the law's loop, and its end -/
theorem law_loop {p : Program} {l : Launch} (hl9 : l.stackTraces = false) {e : Env} {s : State} {m : MethodId} {below : List Frame} {meth : Method} {c : Code} {b L : Nat} {xs : Nat → Int32} {Γ : zG} {K0 : zK} (E : LE p s m c b L xs K0) (hr : meth.sig.returnType = ret) (hlocks : meth.locks = false) (hK0 : ∀ q, (K0 q).1 = 0) {x md out outD : Nat} : ∀ (n it : Nat) (ρ : zL) (K : zK) (X : zX) (Rf : zR) (M : zM) (i : Int) (cw sw : Nat) (H : Heap) (locs : List Loc) (ls : Array Slot), i = 8 * it → 8 * it ≤ L → 513 ≤ it + n → LI ρ K X Rf x md out outD M → (cw ≤ 100 + 1100 * it ∧ sw + ptR X Rf md ≤ 112000 + 14000 * it) → Wd Γ (zA K0 s.heap.size) K X Rf s H locs → lv_has ls 9 [(5, .int (iI i)), (4, .ref outD), (3, .ref out), (2, .ref md), (1, .ref x), (0, .ref b)] → W p l e room_1 s m #[Value.ref b] below meth c H locs cw sw (lw_Z below #[Value.ref b] s) (F0 m 28 ls []) := by
  have E0 := E
  obtain ⟨⟨hx, hb, hml, hown⟩, hG, h46, hX, hXs, hbl, hbA, hL⟩ := E
  intro n
  induction n with
  | zero => intro it ρ K X Rf M i cw sw H locs ls h1 h2 h3; exfalso; omega
  | succ n ih =>
    intro it ρ K X Rf M i cw sw H locs ls hi h2 h3 hI hcs hw hl
    refine lv_iload (pc := 28) hx hb dL_law_28 (lv_at hl 0 rfl) ?_
    refine lv_aload_n (pc := 30) hx hb dL_law_30 rfl (lv_at hl 5 rfl) ?_
    refine zslen (pc := 31) hx hb hXs hbl hbA hL hw dL_law_31 ?_
    refine zbipush (pc := 32) (n := 8) hx hb dL_law_32 rfl ?_
    refine zsub (pc := 34) hx hb dL_law_34 ?_
    refine zicmp_gt (pc := 35) hx hb 3406 (by omega) (by omega) dL_law_35 (by decide) (fun c35 => ?_) (fun c35 => ?_)
    · skip
      refine ziconst (pc := 3406) (n := 1) hx hb dL_law_3406 ?_
      refine va_forget (fun q hq => by rcases hw.2.2.1.2.2 q hq with h9 | h9; exact absurd (hK0 q.base) h9; exact h9) ?_
      refine W.widen (k := 601024) (n := 7293033) (by omega) (by omega) ?_
      refine W.base ?_
      exact lw_ret (Drawn.sameBut.refl s.drawn lw_cs) hx hb hr hlocks dL_law_3407
    · skip
      have kk : ∀ (ρ' : zL) (K' : zK) (X' : zX) (R' : zR) (M' : zM) (H' : Heap) (locs' : List Loc) (cl' sl' : Nat) (ls' : Array Slot), LI ρ' K' X' R' x md out outD M' → (cl' ≤ 100 + 1100 * (it + 1) ∧ sl' + ptR X' R' md ≤ 112000 + 14000 * (it + 1)) → Wd Γ (zA K0 s.heap.size) K' X' R' s H' locs' → lv_has ls' 9 [(5, .int (iI i)), (4, .ref outD), (3, .ref out), (2, .ref md), (1, .ref x), (0, .ref b)] → W p l e room_1 s m #[Value.ref b] below meth c H' locs' cl' sl' (lw_Z below #[Value.ref b] s) (F0 m 3400 ls' []) := by
        intro ρ' K' X' R' M' H' locs' cl' sl' ls' hI' hcs' hw' hl'
        refine ziinc (pc := 3400) (lv' := [(5, .int (iI (i + 8))), (4, .ref outD), (3, .ref out), (2, .ref md), (1, .ref x), (0, .ref b)]) hx hb 0 dL_law_3400 hl' rfl (by decide) rfl (fun ls hl => ?_)
        refine lv_goto (pc := 3403) (tgt := 28) hx hb dL_law_3403 (by decide) ?_
        exact ih (it + 1) ρ' K' X' R' M' (i + 8) _ _ H' locs' ls (by omega) (by omega) (by omega) hI' hcs' hw' hl
      obtain ⟨i0, hq0⟩ : ∃ z : Int, scI xs i.toNat = z := ⟨_, rfl⟩
      have hf0 : fit i0 := by rw [← hq0]; exact scI_fit
      refine lv_aload_n (pc := 38) hx hb dL_law_38 rfl (lv_at hl 5 rfl) ?_
      refine lv_iload (pc := 39) hx hb dL_law_39 (lv_at hl 0 rfl) ?_
      refine zsld (pc := 41) hx hb hXs hbl hbA hL hw ⟨by omega, by omega⟩ hq0 dL_law_41 ?_
      refine zbipush (pc := 42) (n := 63) hx hb dL_law_42 rfl ?_
      refine zand63 (pc := 44) hx hb dL_law_44 ?_
      rcases (by omega : (i0 % 64) = 0 ∨ (i0 % 64) = 1 ∨ (i0 % 64) = 2 ∨ (i0 % 64) = 3 ∨ (i0 % 64) = 4 ∨ (i0 % 64) = 5 ∨ (i0 % 64) = 6 ∨ (i0 % 64) = 7 ∨ (i0 % 64) = 8 ∨ (i0 % 64) = 9 ∨ (i0 % 64) = 10 ∨ (i0 % 64) = 11 ∨ (i0 % 64) = 12 ∨ (i0 % 64) = 13 ∨ (i0 % 64) = 14 ∨ (i0 % 64) = 15 ∨ (i0 % 64) = 16 ∨ (i0 % 64) = 17 ∨ (i0 % 64) = 18 ∨ (i0 % 64) = 19 ∨ (i0 % 64) = 20 ∨ (i0 % 64) = 21 ∨ (i0 % 64) = 22 ∨ (i0 % 64) = 23 ∨ (i0 % 64) = 24 ∨ (i0 % 64) = 25 ∨ (i0 % 64) = 26 ∨ (i0 % 64) = 27 ∨ (i0 % 64) = 28 ∨ (i0 % 64) = 29 ∨ (i0 % 64) = 30 ∨ (i0 % 64) = 31 ∨ (i0 % 64) = 32 ∨ (i0 % 64) = 33 ∨ (i0 % 64) = 34 ∨ (i0 % 64) = 35 ∨ (i0 % 64) = 36 ∨ (i0 % 64) = 37 ∨ (i0 % 64) = 38 ∨ (i0 % 64) = 39 ∨ (i0 % 64) = 40 ∨ (i0 % 64) = 41 ∨ (i0 % 64) = 42 ∨ (i0 % 64) = 43 ∨ (i0 % 64) = 44 ∨ (i0 % 64) = 45 ∨ (i0 % 64) = 46 ∨ ((i0 % 64) < 0 ∨ 46 < (i0 % 64))) with hs | hs | hs | hs | hs | hs | hs | hs | hs | hs | hs | hs | hs | hs | hs | hs | hs | hs | hs | hs | hs | hs | hs | hs | hs | hs | hs | hs | hs | hs | hs | hs | hs | hs | hs | hs | hs | hs | hs | hs | hs | hs | hs | hs | hs | hs | hs | hs
      · skip
        refine zswIn (pc := 45) (k := 0) (tgt := 248) hx hb hs dL_law_45 (by decide) (by decide) rfl (by decide) ?_
        exact lc_0 hl9 E0 ⟨by omega, by omega⟩ (by omega) hI hcs hw hl kk
      · skip
        refine zswIn (pc := 45) (k := 1) (tgt := 328) hx hb hs dL_law_45 (by decide) (by decide) rfl (by decide) ?_
        exact lc_1 hl9 E0 ⟨by omega, by omega⟩ (by omega) hI hcs hw hl kk
      · skip
        refine zswIn (pc := 45) (k := 2) (tgt := 384) hx hb hs dL_law_45 (by decide) (by decide) rfl (by decide) ?_
        exact lc_2 hl9 E0 ⟨by omega, by omega⟩ (by omega) hI hcs hw hl kk
      · skip
        refine zswIn (pc := 45) (k := 3) (tgt := 440) hx hb hs dL_law_45 (by decide) (by decide) rfl (by decide) ?_
        exact lc_3 hl9 E0 ⟨by omega, by omega⟩ (by omega) hI hcs hw hl kk
      · skip
        refine zswIn (pc := 45) (k := 4) (tgt := 496) hx hb hs dL_law_45 (by decide) (by decide) rfl (by decide) ?_
        exact lc_4 hl9 E0 ⟨by omega, by omega⟩ (by omega) hI hcs hw hl kk
      · skip
        refine zswIn (pc := 45) (k := 5) (tgt := 552) hx hb hs dL_law_45 (by decide) (by decide) rfl (by decide) ?_
        exact lc_5 hl9 E0 ⟨by omega, by omega⟩ (by omega) hI hcs hw hl kk
      · skip
        refine zswIn (pc := 45) (k := 6) (tgt := 608) hx hb hs dL_law_45 (by decide) (by decide) rfl (by decide) ?_
        exact lc_6 hl9 E0 ⟨by omega, by omega⟩ (by omega) hI hcs hw hl kk
      · skip
        refine zswIn (pc := 45) (k := 7) (tgt := 664) hx hb hs dL_law_45 (by decide) (by decide) rfl (by decide) ?_
        exact lc_7 hl9 E0 ⟨by omega, by omega⟩ (by omega) hI hcs hw hl kk
      · skip
        refine zswIn (pc := 45) (k := 8) (tgt := 720) hx hb hs dL_law_45 (by decide) (by decide) rfl (by decide) ?_
        exact lc_8 hl9 E0 ⟨by omega, by omega⟩ (by omega) hI hcs hw hl kk
      · skip
        refine zswIn (pc := 45) (k := 9) (tgt := 788) hx hb hs dL_law_45 (by decide) (by decide) rfl (by decide) ?_
        exact lc_9 hl9 E0 ⟨by omega, by omega⟩ (by omega) hI hcs hw hl kk
      · skip
        refine zswIn (pc := 45) (k := 10) (tgt := 868) hx hb hs dL_law_45 (by decide) (by decide) rfl (by decide) ?_
        exact lc_10 hl9 E0 ⟨by omega, by omega⟩ (by omega) hI hcs hw hl kk
      · skip
        refine zswIn (pc := 45) (k := 11) (tgt := 936) hx hb hs dL_law_45 (by decide) (by decide) rfl (by decide) ?_
        exact lc_11 hl9 E0 ⟨by omega, by omega⟩ (by omega) hI hcs hw hl kk
      · skip
        refine zswIn (pc := 45) (k := 12) (tgt := 1011) hx hb hs dL_law_45 (by decide) (by decide) rfl (by decide) ?_
        exact lc_12 hl9 E0 ⟨by omega, by omega⟩ (by omega) hI hcs hw hl kk
      · skip
        refine zswIn (pc := 45) (k := 13) (tgt := 1079) hx hb hs dL_law_45 (by decide) (by decide) rfl (by decide) ?_
        exact lc_13 hl9 E0 ⟨by omega, by omega⟩ (by omega) hI hcs hw hl kk
      · skip
        refine zswIn (pc := 45) (k := 14) (tgt := 1135) hx hb hs dL_law_45 (by decide) (by decide) rfl (by decide) ?_
        exact lc_14 hl9 E0 ⟨by omega, by omega⟩ (by omega) hI hcs hw hl kk
      · skip
        refine zswIn (pc := 45) (k := 15) (tgt := 1267) hx hb hs dL_law_45 (by decide) (by decide) rfl (by decide) ?_
        exact lc_15 hl9 E0 ⟨by omega, by omega⟩ (by omega) hI hcs hw hl kk
      · skip
        refine zswIn (pc := 45) (k := 16) (tgt := 1335) hx hb hs dL_law_45 (by decide) (by decide) rfl (by decide) ?_
        exact lc_16 hl9 E0 ⟨by omega, by omega⟩ (by omega) hI hcs hw hl kk
      · skip
        refine zswIn (pc := 45) (k := 17) (tgt := 1403) hx hb hs dL_law_45 (by decide) (by decide) rfl (by decide) ?_
        exact lc_17 hl9 E0 ⟨by omega, by omega⟩ (by omega) hI hcs hw hl kk
      · skip
        refine zswIn (pc := 45) (k := 18) (tgt := 1471) hx hb hs dL_law_45 (by decide) (by decide) rfl (by decide) ?_
        exact lc_18 hl9 E0 ⟨by omega, by omega⟩ (by omega) hI hcs hw hl kk
      · skip
        refine zswIn (pc := 45) (k := 19) (tgt := 1539) hx hb hs dL_law_45 (by decide) (by decide) rfl (by decide) ?_
        exact lc_19 hl9 E0 ⟨by omega, by omega⟩ (by omega) hI hcs hw hl kk
      · skip
        refine zswIn (pc := 45) (k := 20) (tgt := 1607) hx hb hs dL_law_45 (by decide) (by decide) rfl (by decide) ?_
        exact lc_20 hl9 E0 ⟨by omega, by omega⟩ (by omega) hI hcs hw hl kk
      · skip
        refine zswIn (pc := 45) (k := 21) (tgt := 1675) hx hb hs dL_law_45 (by decide) (by decide) rfl (by decide) ?_
        exact lc_21 hl9 E0 ⟨by omega, by omega⟩ (by omega) hI hcs hw hl kk
      · skip
        refine zswIn (pc := 45) (k := 22) (tgt := 1755) hx hb hs dL_law_45 (by decide) (by decide) rfl (by decide) ?_
        exact lc_22 hl9 E0 ⟨by omega, by omega⟩ (by omega) hI hcs hw hl kk
      · skip
        refine zswIn (pc := 45) (k := 23) (tgt := 1859) hx hb hs dL_law_45 (by decide) (by decide) rfl (by decide) ?_
        exact lc_23 hl9 E0 ⟨by omega, by omega⟩ (by omega) hI hcs hw hl kk
      · skip
        refine zswIn (pc := 45) (k := 24) (tgt := 1927) hx hb hs dL_law_45 (by decide) (by decide) rfl (by decide) ?_
        exact lc_24 hl9 E0 ⟨by omega, by omega⟩ (by omega) hI hcs hw hl kk
      · skip
        refine zswIn (pc := 45) (k := 25) (tgt := 1995) hx hb hs dL_law_45 (by decide) (by decide) rfl (by decide) ?_
        exact lc_25 hl9 E0 ⟨by omega, by omega⟩ (by omega) hI hcs hw hl kk
      · skip
        refine zswIn (pc := 45) (k := 26) (tgt := 2063) hx hb hs dL_law_45 (by decide) (by decide) rfl (by decide) ?_
        exact lc_26 hl9 E0 ⟨by omega, by omega⟩ (by omega) hI hcs hw hl kk
      · skip
        refine zswIn (pc := 45) (k := 27) (tgt := 2131) hx hb hs dL_law_45 (by decide) (by decide) rfl (by decide) ?_
        exact lc_27 hl9 E0 ⟨by omega, by omega⟩ (by omega) hI hcs hw hl kk
      · skip
        refine zswIn (pc := 45) (k := 28) (tgt := 2199) hx hb hs dL_law_45 (by decide) (by decide) rfl (by decide) ?_
        exact lc_28 hl9 E0 ⟨by omega, by omega⟩ (by omega) hI hcs hw hl kk
      · skip
        refine zswIn (pc := 45) (k := 29) (tgt := 2255) hx hb hs dL_law_45 (by decide) (by decide) rfl (by decide) ?_
        exact lc_29 hl9 E0 ⟨by omega, by omega⟩ (by omega) hI hcs hw hl kk
      · skip
        refine zswIn (pc := 45) (k := 30) (tgt := 2323) hx hb hs dL_law_45 (by decide) (by decide) rfl (by decide) ?_
        exact lc_30 hl9 E0 ⟨by omega, by omega⟩ (by omega) hI hcs hw hl kk
      · skip
        refine zswIn (pc := 45) (k := 31) (tgt := 2391) hx hb hs dL_law_45 (by decide) (by decide) rfl (by decide) ?_
        exact lc_31 hl9 E0 ⟨by omega, by omega⟩ (by omega) hI hcs hw hl kk
      · skip
        refine zswIn (pc := 45) (k := 32) (tgt := 2459) hx hb hs dL_law_45 (by decide) (by decide) rfl (by decide) ?_
        exact lc_32 hl9 E0 ⟨by omega, by omega⟩ (by omega) hI hcs hw hl kk
      · skip
        refine zswIn (pc := 45) (k := 33) (tgt := 2527) hx hb hs dL_law_45 (by decide) (by decide) rfl (by decide) ?_
        exact lc_33 hl9 E0 ⟨by omega, by omega⟩ (by omega) hI hcs hw hl kk
      · skip
        refine zswIn (pc := 45) (k := 34) (tgt := 2583) hx hb hs dL_law_45 (by decide) (by decide) rfl (by decide) ?_
        exact lc_34 hl9 E0 ⟨by omega, by omega⟩ (by omega) hI hcs hw hl kk
      · skip
        refine zswIn (pc := 45) (k := 35) (tgt := 2639) hx hb hs dL_law_45 (by decide) (by decide) rfl (by decide) ?_
        exact lc_35 hl9 E0 ⟨by omega, by omega⟩ (by omega) hI hcs hw hl kk
      · skip
        refine zswIn (pc := 45) (k := 36) (tgt := 2695) hx hb hs dL_law_45 (by decide) (by decide) rfl (by decide) ?_
        exact lc_36 hl9 E0 ⟨by omega, by omega⟩ (by omega) hI hcs hw hl kk
      · skip
        refine zswIn (pc := 45) (k := 37) (tgt := 2763) hx hb hs dL_law_45 (by decide) (by decide) rfl (by decide) ?_
        exact lc_37 hl9 E0 ⟨by omega, by omega⟩ (by omega) hI hcs hw hl kk
      · skip
        refine zswIn (pc := 45) (k := 38) (tgt := 2855) hx hb hs dL_law_45 (by decide) (by decide) rfl (by decide) ?_
        exact lc_38 hl9 E0 ⟨by omega, by omega⟩ (by omega) hI hcs hw hl kk
      · skip
        refine zswIn (pc := 45) (k := 39) (tgt := 2911) hx hb hs dL_law_45 (by decide) (by decide) rfl (by decide) ?_
        exact lc_39 hl9 E0 ⟨by omega, by omega⟩ (by omega) hI hcs hw hl kk
      · skip
        refine zswIn (pc := 45) (k := 40) (tgt := 2974) hx hb hs dL_law_45 (by decide) (by decide) rfl (by decide) ?_
        exact lc_40 hl9 E0 ⟨by omega, by omega⟩ (by omega) hI hcs hw hl kk
      · skip
        refine zswIn (pc := 45) (k := 41) (tgt := 3042) hx hb hs dL_law_45 (by decide) (by decide) rfl (by decide) ?_
        exact lc_41 hl9 E0 ⟨by omega, by omega⟩ (by omega) hI hcs hw hl kk
      · skip
        refine zswIn (pc := 45) (k := 42) (tgt := 3110) hx hb hs dL_law_45 (by decide) (by decide) rfl (by decide) ?_
        exact lc_42 hl9 E0 ⟨by omega, by omega⟩ (by omega) hI hcs hw hl kk
      · skip
        refine zswIn (pc := 45) (k := 43) (tgt := 3173) hx hb hs dL_law_45 (by decide) (by decide) rfl (by decide) ?_
        exact lc_43 hl9 E0 ⟨by omega, by omega⟩ (by omega) hI hcs hw hl kk
      · skip
        refine zswIn (pc := 45) (k := 44) (tgt := 3241) hx hb hs dL_law_45 (by decide) (by decide) rfl (by decide) ?_
        exact lc_44 hl9 E0 ⟨by omega, by omega⟩ (by omega) hI hcs hw hl kk
      · skip
        refine zswIn (pc := 45) (k := 45) (tgt := 3309) hx hb hs dL_law_45 (by decide) (by decide) rfl (by decide) ?_
        exact lc_45 hl9 E0 ⟨by omega, by omega⟩ (by omega) hI hcs hw hl kk
      · skip
        refine zswIn (pc := 45) (k := 46) (tgt := 3386) hx hb hs dL_law_45 (by decide) (by decide) rfl (by decide) ?_
        exact lc_46 hl9 E0 ⟨by omega, by omega⟩ (by omega) hI hcs hw hl kk
      · skip
        refine zswOut (pc := 45) (tgt := 3400) hx hb (by omega) hs dL_law_45 (by decide) ?_
        exact kk ρ K X Rf M H locs _ _ ls hI ⟨by omega, by omega⟩ hw hl
