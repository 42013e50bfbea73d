section ZMOREX
variable {p : Program} {l : Launch} {e : Env} {R : Room} {s : State} {m : MethodId} {args : Array Value} {below : List Frame} {meth : Method} {c : Code} {H : Heap} {locs : List Loc} {cells slots : Nat} {Q : State → Prop}
variable {cc : ByteArray} {pc : Nat} {ls : Array Slot} {rest : List Value} {Γ : zG} {A : Nat → Prop} {K : zK} {X X' : zX} {Rf Rf' : zR} {a : Nat}
/-- what writes ints only -/
abbrev zpx (K : zK) (Rf : zR) (P : Int → zX → Prop) : Int → zK → zX → zR → Prop := fun r K' X' R' => P r X' ∧ K' = K ∧ R' = Rf
abbrev zpv (K : zK) (Rf : zR) (P : zX → Prop) : zK → zX → zR → Prop := fun K' X' R' => P X' ∧ K' = K ∧ R' = Rf
theorem zkIx {st0 : List Value} {mc ms : Nat} {P : Int → zX → Prop} {aa : Array Value} (hr : va_Run p l e R s m args below meth c H locs cells slots mc ms (F0 m pc ls st0) rest (zQ Γ K H.size (pI (zpx K Rf P)) aa) (zA K H.size)) (hw : Wd Γ A K X Rf s H locs)
    (kk : ∀ (r : Int) (X1 : zX) (H1 : Heap) (locs1 : List Loc), P r X1 → Wd Γ A K X1 Rf s H1 locs1 → W p l e R s m args below meth c H1 locs1 (cells + mc) (slots + ms) Q (F0 m (pc + 3) ls (.int (iI r) :: rest))) : W p l e R s m args below meth c H locs cells slots Q (F0 m pc ls st0) :=
  zkI hr hw (fun r K' X' R' H1 locs1 ⟨hp, e1, e3⟩ h => by subst e1; subst e3; exact kk r X' H1 locs1 hp h)
theorem zkLx {st0 : List Value} {mc ms : Nat} {P : Int → zX → Prop} {aa : Array Value} (hr : va_Run p l e R s m args below meth c H locs cells slots mc ms (F0 m pc ls st0) rest (zQ Γ K H.size (pL (zpx K Rf P)) aa) (zA K H.size)) (hw : Wd Γ A K X Rf s H locs)
    (kk : ∀ (r : Int) (X1 : zX) (H1 : Heap) (locs1 : List Loc), P r X1 → Wd Γ A K X1 Rf s H1 locs1 → W p l e R s m args below meth c H1 locs1 (cells + mc) (slots + ms) Q (F0 m (pc + 3) ls (.long (lJ r) :: rest))) : W p l e R s m args below meth c H locs cells slots Q (F0 m pc ls st0) :=
  zkL hr hw (fun r K' X' R' H1 locs1 ⟨hp, e1, e3⟩ h => by subst e1; subst e3; exact kk r X' H1 locs1 hp h)
theorem zkVx {st0 : List Value} {mc ms : Nat} {P : zX → Prop} {aa : Array Value} (hr : va_Run p l e R s m args below meth c H locs cells slots mc ms (F0 m pc ls st0) rest (zQ Γ K H.size (pV (zpv K Rf P)) aa) (zA K H.size)) (hw : Wd Γ A K X Rf s H locs)
    (kk : ∀ (X1 : zX) (H1 : Heap) (locs1 : List Loc), P X1 → Wd Γ A K X1 Rf s H1 locs1 → W p l e R s m args below meth c H1 locs1 (cells + mc) (slots + ms) Q (F0 m (pc + 3) ls rest)) : W p l e R s m args below meth c H locs cells slots Q (F0 m pc ls st0) :=
  zkV hr hw (fun K' X' R' H1 locs1 ⟨hp, e1, e3⟩ h => by subst e1; subst e3; exact kk X' H1 locs1 hp h)
end ZMOREX
theorem up2_eq {α : Type} {X : Nat → Nat → α} {a k b j : Nat} {z : α} : up2 X a k z b j = if b = a ∧ j = k then z else X b j := rfl
theorem up2_o {α : Type} {X : Nat → Nat → α} {a k b : Nat} {z : α} (h : b ≠ a) : up2 X a k z b = X b := funext fun _ => up2_a h
-- ===== a row of numbers by DAYS: object dr, its array na of n numbers =====
def rdv (X : zX) (dr na n : Nat) (day : Int) : Int := if X dr 2 < day ∨ day - X dr 1 < 0 ∨ (n : Int) ≤ day - X dr 1 then -1 else X na (day - X dr 1).toNat
def wrX (X : zX) (dr na n : Nat) (day z : Int) : zX := if X dr 2 < day ∨ day - X dr 1 < 0 ∨ (n : Int) ≤ day - X dr 1 then X else up2 X na (day - X dr 1).toNat z
theorem wrX_o {X : zX} {dr na n : Nat} {day z : Int} {a : Nat} (h : a ≠ na) : wrX X dr na n day z a = X a := by
  unfold wrX; split
  · rfl
  · exact up2_o h
theorem rdv_wr {X : zX} {dr na n : Nat} {day z : Int} (hne : dr ≠ na) (d : Int) : rdv (wrX X dr na n day z) dr na n d = if d = day ∧ ¬(X dr 2 < day ∨ day - X dr 1 < 0 ∨ (n : Int) ≤ day - X dr 1) then z else rdv X dr na n d := by
  by_cases h : X dr 2 < day ∨ day - X dr 1 < 0 ∨ (n : Int) ≤ day - X dr 1
  · have e : wrX X dr na n day z = X := if_pos h
    rw [e, if_neg (fun q => q.2 h)]
  · have e : wrX X dr na n day z = up2 X na (day - X dr 1).toNat z := if_neg h
    rw [e]
    by_cases hd : d = day
    · rw [if_pos ⟨hd, h⟩]; subst hd; unfold rdv; rw [up2_o hne, if_neg h, up2_s]
    · rw [if_neg (fun q => hd q.1)]
      unfold rdv
      rw [up2_o hne]
      by_cases h2 : X dr 2 < d ∨ d - X dr 1 < 0 ∨ (n : Int) ≤ d - X dr 1
      · rw [if_pos h2, if_pos h2]
      · rw [if_neg h2, if_neg h2, up2_k (by omega)]
theorem zkne {K : zK} {a b : Nat} {k1 k2 : Nat × Nat} (h1 : K a = k1) (h2 : K b = k2) (h : k1.1 ≠ k2.1) : a ≠ b := fun q => by rw [← q, h1] at h2; exact h (by rw [h2])
theorem rdv_clear {X : zX} {dr na n : Nat} (h : ∀ j : Nat, (j : Int) < n → (j : Int) ≤ X dr 2 - X dr 1 → X na j = -1) (d : Int) : rdv X dr na n d = -1 := by
  unfold rdv; split
  · rfl
  · exact h _ (by omega) (by omega)
