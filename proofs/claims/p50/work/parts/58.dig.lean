-- ===== the digest's number =====
def wI (z : Int) : Int := (iI z).toInt
theorem lJ_i2lw (z : Int) : (iI z).toInt64 = lJ (wI z) := by
  have h1 := Int32.le_toInt (iI z)
  have h2 := Int32.toInt_lt (iI z)
  apply Int64.toInt_inj.mp
  rw [Int32.toInt_toInt64]
  exact (lJ_toInt ⟨by omega, by omega⟩).symm
section ZDG
variable {p : Program} {l : Launch} {e : Env} {R : Room} {s : State} {m : MethodId} {args : Array Value} {below : List Frame} {meth : Method} {c : Code} {H : Heap} {locs : List Loc} {cells slots : Nat} {Q : State → Prop}
variable {cc : ByteArray} {pc : Nat} {ls : Array Slot} {rest : List Value}
theorem zi2lw (hx : p.tables.exec = Jvm.exec) (hb : c.code = cc) {a : Int} (hdg : decode cc pc = .ok (.i2l, 1)) (k : W p l e R s m args below meth c H locs cells slots Q (F0 m (pc + 1) ls (.long (lJ (wI a)) :: rest))) : W p l e R s m args below meth c H locs cells slots Q (F0 m pc ls (.int (iI a) :: rest)) := lv_i2l hx hb hdg (lJ_i2lw a) k
end ZDG
def mx (v x : Int) : Int := v * 31 + x
def dgL (f : Nat → Int → Int) (v : Int) : Nat → Int
  | 0 => v
  | n + 1 => f n (dgL f v n)
theorem dgL_s {f : Nat → Int → Int} {v i : Int} (h : 0 ≤ i) : dgL f v (i + 1).toNat = f i.toNat (dgL f v i.toNat) := by
  rw [show (i + 1).toNat = i.toNat + 1 by omega]; rfl
def dgPa (M : zM) (k : Nat) (v : Int) : Int := if (k : Int) < M 40 1 then mx (mx v (wI (cntT (patM M k) (12 * (2000 - 1900)) 12))) (wI (nextT (patM M k) 36600)) else v
def dgPl (M : zM) (k : Nat) (v : Int) : Int := if (k : Int) < M 40 5 then mx (mx (mx (mx (mx (mx v (wI (savM M k 52596000))) (wI (52596000 + M 6 k + savM M k 52596000))) (wI (ncF (savM M k) 52596000))) (wI (shN (savM M k) (M 6 k) 52740120))) (wI (momF (savM M k) (M 6 k) 52740120))) (wI (shL (savM M k) (M 6 k) 52740120)) else v
def dmM (M : zM) (n : Nat) (k : Int) : Int := momF (savM M (serM M n 0).toNat) (M 6 (serM M n 0).toNat) (1440 * dtL (datM M n) k + serM M n 1 % 1440)
def dgD2 (M : zM) (n : Nat) (v : Int) : Int := if 0 < ((datM M n).length : Int) - 1 then mx (mx (mx (mx v (wI (dtL (datM M n) 0))) (wI (dmM M n 0))) (wI (dtL (datM M n) ((datM M n).length - 1)))) (wI (dmM M n ((datM M n).length - 1))) else mx (mx v (wI (dtL (datM M n) 0))) (wI (dmM M n 0))
def dgSh (M : zM) (n k : Nat) (v : Int) : Int := if (k : Int) < M 40 16 then mx v (wI (shD (datM M n) (datM M k))) else v
def dgDt (M : zM) (n : Nat) (v : Int) : Int := dgL (dgSh M n) (dgD2 M n v) 6
def dgSe (M : zM) (n : Nat) (v : Int) : Int := if (n : Int) < M 40 16 then (if 0 < ((datM M n).length : Int) then dgDt M n (mx (mx v (wI (datM M n).length)) (wI (wdD (datM M n)))) else mx (mx v (wI (datM M n).length)) (wI (wdD (datM M n)))) else v
noncomputable def dgDy (M : zM) (k : Nat) (v : Int) : Int := mx (mx v (wI (falM M (36500 + k)))) (if wkdM M (36500 + k) then 1 else 0)
noncomputable def dgWo (M : zM) (v : Int) : Int := mx (mx (mx (mx (dgL (dgDy M) v 20) (wI (cP (wkdM M) (36500 + 400 - 36500 : Int).toNat 36500))) (wI (bhF (wkdM M) 36500 20))) (wI (cP (wkmM M) (52560000 + 20000 - 52560000 : Int).toNat 52560000))) (wI (dnF (wkmM M) 52560000 3000 (52560000 + 50000)))
noncomputable def dgM (M : zM) : Int := dgWo M (dgL (dgSe M) (mx (dgL (dgPl M) (mx (dgL (dgPa M) (mx 2441 (wI (M 40 1))) 24) (wI (M 40 5))) 6) (wI (M 40 16))) 6)
/-- a fact that the arithmetic need not see -/
def Hid (p : Prop) : Prop := p
theorem Hid.mk {p : Prop} (h : p) : Hid p := h
theorem Hid.out {p : Prop} (h : Hid p) : p := h
