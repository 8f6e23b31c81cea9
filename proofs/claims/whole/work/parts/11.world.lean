section ZW
variable {ca : Nat → ClassId} {ad : Nat → Nat} {M : Nat → Nat → Int32}
/-- what lies at row k of the world, r being its numbers -/
def zC (ca : Nat → ClassId) (ad : Nat → Nat) (k : Nat) (r : Nat → Int32) : va_E :=
  if k < 14 then match k with
    | 0 => .inr (6, [.ref (ad 1), .ref (ad 3), .ref (ad 7), .ref (ad 10), .ref (ad 13), .int (r 0), .int (r 1), .int (r 2)])
    | 1 => .inr (5, [.ref (ad 2), .int (r 0)])
    | 2 => .inl (ca 1, 6, .inr (.inr (.inr (.inr (fun j => some (ad (14 + j)))))))
    | 3 => .inr (3, [.ref (ad 4), .ref (ad 5), .ref (ad 6), .int (r 0)])
    | 4 => .inl (ca 0, 60, .inl r)
    | 5 => .inl (ca 0, 60, .inl r)
    | 6 => .inl (ca 0, 60, .inl r)
    | 7 => .inr (2, [.ref (ad 8), .ref (ad 9)])
    | 8 => .inl (ca 0, 6, .inl r)
    | 9 => .inl (ca 0, 6, .inl r)
    | 10 => .inr (1, [.ref (ad 11), .ref (ad 12)])
    | 11 => .inl (ca 0, 64, .inl r)
    | 12 => .inl (ca 0, 16, .inl r)
    | _ => .inl (ca 0, 240, .inl r)
  else if k < 20 then .inr (4, [.int (r 0), .int (r 1), .int (r 2), .int (r 3), .int (r 4), .ref (ad (k + 6)), .ref (ad (k + 18))])
  else if k < 26 then .inr (0, [.ref (ad (k + 6)), .int (r 0), .int (r 1), .int (r 2), .int (r 3)])
  else if k < 38 then .inl (ca 0, 4, .inl r)
  else match k with
    | 38 => .inr (7, [.int (r 0), .int (r 1), .int (r 2), .ref (ad 39), .ref (ad 40), .ref (ad 41), .ref (ad 42), .ref (ad 43), .int (r 3), .ref (ad 44), .ref (ad 45), .ref (ad 46), .ref (ad 47), .ref (ad 48), .int (r 4), .ref (ad 49), .ref (ad 50), .ref (ad 51), .ref (ad 52), .ref (ad 53), .ref (ad 54), .ref (ad 55)])
    | 39 => .inl (ca 0, 6, .inl r)
    | 40 => .inl (ca 0, 6, .inl r)
    | 41 => .inl (ca 0, 6, .inl r)
    | 42 => .inl (ca 0, 6, .inl r)
    | 43 => .inl (ca 0, 6, .inl r)
    | 44 => .inl (ca 0, 60, .inl r)
    | 45 => .inl (ca 0, 60, .inl r)
    | 46 => .inl (ca 0, 60, .inl r)
    | 47 => .inl (ca 0, 64, .inl r)
    | 48 => .inl (ca 0, 16, .inl r)
    | 49 => .inl (ca 2, 6, .inl r)
    | 50 => .inl (ca 0, 6, .inl r)
    | 51 => .inl (ca 0, 6, .inl r)
    | 52 => .inl (ca 0, 6, .inl r)
    | 53 => .inl (ca 0, 24, .inl r)
    | 54 => .inl (ca 0, 24, .inl r)
    | 55 => .inl (ca 0, 240, .inl r)
    | _ => .inl (ca 3, 1, .inr (.inl (fun j => (r j).toInt64)))
def zW (ca : Nat → ClassId) (ad : Nat → Nat) (M : Nat → Nat → Int32) : va_W := (List.range 57).map (fun k => (ad k, zC ca ad k (M k)))
abbrev zT (ca : Nat → ClassId) : List (ClassId × FieldType) := [(ca 0, .int), (ca 1, .object "TabledExecutive$Task"), (ca 2, .boolean), (ca 3, .long)]
theorem z_at {k : Nat} (hk : k < 57) : (zW ca ad M)[k]? = some (ad k, zC ca ad k (M k)) := by
  unfold zW
  rw [List.getElem?_map, List.getElem?_range hk]
  rfl
theorem z_set {k : Nat} (hk : k < 57) (r : Nat → Int32) : (zW ca ad M).set k (ad k, zC ca ad k r) = zW ca ad (va_up M k r) := by
  apply List.ext_getElem?
  intro j
  rw [List.getElem?_set]
  by_cases hj : k = j
  · subst hj
    rw [if_pos rfl, if_pos (by simp [zW]; exact hk), z_at hk, va_up_self]
  · rw [if_neg hj]
    by_cases h2 : j < 57
    · rw [z_at h2, z_at h2, va_up_ne _ _ (Ne.symm hj)]
    · rw [List.getElem?_eq_none (by simp [zW]; omega), List.getElem?_eq_none (by simp [zW]; omega)]
theorem zr_0 : (zW ca ad M)[0]? = some (ad 0, .inr (6, [.ref (ad 1), .ref (ad 3), .ref (ad 7), .ref (ad 10), .ref (ad 13), .int (M 0 0), .int (M 0 1), .int (M 0 2)])) := z_at (k := 0) (by decide)
theorem zs_0_0 (v : Int32) : (zW ca ad M).set 0 (ad 0, .inr (6, ([.ref (ad 1), .ref (ad 3), .ref (ad 7), .ref (ad 10), .ref (ad 13), .int (M 0 0), .int (M 0 1), .int (M 0 2)] : List Value).set 5 (.int v))) = zW ca ad (va_up M 0 (upd (M 0) 0 v)) := z_set (k := 0) (by decide) (upd (M 0) 0 v)
theorem zs_0_1 (v : Int32) : (zW ca ad M).set 0 (ad 0, .inr (6, ([.ref (ad 1), .ref (ad 3), .ref (ad 7), .ref (ad 10), .ref (ad 13), .int (M 0 0), .int (M 0 1), .int (M 0 2)] : List Value).set 6 (.int v))) = zW ca ad (va_up M 0 (upd (M 0) 1 v)) := z_set (k := 0) (by decide) (upd (M 0) 1 v)
theorem zs_0_2 (v : Int32) : (zW ca ad M).set 0 (ad 0, .inr (6, ([.ref (ad 1), .ref (ad 3), .ref (ad 7), .ref (ad 10), .ref (ad 13), .int (M 0 0), .int (M 0 1), .int (M 0 2)] : List Value).set 7 (.int v))) = zW ca ad (va_up M 0 (upd (M 0) 2 v)) := z_set (k := 0) (by decide) (upd (M 0) 2 v)
theorem zr_1 : (zW ca ad M)[1]? = some (ad 1, .inr (5, [.ref (ad 2), .int (M 1 0)])) := z_at (k := 1) (by decide)
theorem zs_1_0 (v : Int32) : (zW ca ad M).set 1 (ad 1, .inr (5, ([.ref (ad 2), .int (M 1 0)] : List Value).set 1 (.int v))) = zW ca ad (va_up M 1 (upd (M 1) 0 v)) := z_set (k := 1) (by decide) (upd (M 1) 0 v)
theorem zr_3 : (zW ca ad M)[3]? = some (ad 3, .inr (3, [.ref (ad 4), .ref (ad 5), .ref (ad 6), .int (M 3 0)])) := z_at (k := 3) (by decide)
theorem zs_3_0 (v : Int32) : (zW ca ad M).set 3 (ad 3, .inr (3, ([.ref (ad 4), .ref (ad 5), .ref (ad 6), .int (M 3 0)] : List Value).set 3 (.int v))) = zW ca ad (va_up M 3 (upd (M 3) 0 v)) := z_set (k := 3) (by decide) (upd (M 3) 0 v)
theorem zr_7 : (zW ca ad M)[7]? = some (ad 7, .inr (2, [.ref (ad 8), .ref (ad 9)])) := z_at (k := 7) (by decide)
theorem zr_10 : (zW ca ad M)[10]? = some (ad 10, .inr (1, [.ref (ad 11), .ref (ad 12)])) := z_at (k := 10) (by decide)
theorem zr_38 : (zW ca ad M)[38]? = some (ad 38, .inr (7, [.int (M 38 0), .int (M 38 1), .int (M 38 2), .ref (ad 39), .ref (ad 40), .ref (ad 41), .ref (ad 42), .ref (ad 43), .int (M 38 3), .ref (ad 44), .ref (ad 45), .ref (ad 46), .ref (ad 47), .ref (ad 48), .int (M 38 4), .ref (ad 49), .ref (ad 50), .ref (ad 51), .ref (ad 52), .ref (ad 53), .ref (ad 54), .ref (ad 55)])) := z_at (k := 38) (by decide)
theorem zs_38_0 (v : Int32) : (zW ca ad M).set 38 (ad 38, .inr (7, ([.int (M 38 0), .int (M 38 1), .int (M 38 2), .ref (ad 39), .ref (ad 40), .ref (ad 41), .ref (ad 42), .ref (ad 43), .int (M 38 3), .ref (ad 44), .ref (ad 45), .ref (ad 46), .ref (ad 47), .ref (ad 48), .int (M 38 4), .ref (ad 49), .ref (ad 50), .ref (ad 51), .ref (ad 52), .ref (ad 53), .ref (ad 54), .ref (ad 55)] : List Value).set 0 (.int v))) = zW ca ad (va_up M 38 (upd (M 38) 0 v)) := z_set (k := 38) (by decide) (upd (M 38) 0 v)
theorem zs_38_1 (v : Int32) : (zW ca ad M).set 38 (ad 38, .inr (7, ([.int (M 38 0), .int (M 38 1), .int (M 38 2), .ref (ad 39), .ref (ad 40), .ref (ad 41), .ref (ad 42), .ref (ad 43), .int (M 38 3), .ref (ad 44), .ref (ad 45), .ref (ad 46), .ref (ad 47), .ref (ad 48), .int (M 38 4), .ref (ad 49), .ref (ad 50), .ref (ad 51), .ref (ad 52), .ref (ad 53), .ref (ad 54), .ref (ad 55)] : List Value).set 1 (.int v))) = zW ca ad (va_up M 38 (upd (M 38) 1 v)) := z_set (k := 38) (by decide) (upd (M 38) 1 v)
theorem zs_38_2 (v : Int32) : (zW ca ad M).set 38 (ad 38, .inr (7, ([.int (M 38 0), .int (M 38 1), .int (M 38 2), .ref (ad 39), .ref (ad 40), .ref (ad 41), .ref (ad 42), .ref (ad 43), .int (M 38 3), .ref (ad 44), .ref (ad 45), .ref (ad 46), .ref (ad 47), .ref (ad 48), .int (M 38 4), .ref (ad 49), .ref (ad 50), .ref (ad 51), .ref (ad 52), .ref (ad 53), .ref (ad 54), .ref (ad 55)] : List Value).set 2 (.int v))) = zW ca ad (va_up M 38 (upd (M 38) 2 v)) := z_set (k := 38) (by decide) (upd (M 38) 2 v)
theorem zs_38_3 (v : Int32) : (zW ca ad M).set 38 (ad 38, .inr (7, ([.int (M 38 0), .int (M 38 1), .int (M 38 2), .ref (ad 39), .ref (ad 40), .ref (ad 41), .ref (ad 42), .ref (ad 43), .int (M 38 3), .ref (ad 44), .ref (ad 45), .ref (ad 46), .ref (ad 47), .ref (ad 48), .int (M 38 4), .ref (ad 49), .ref (ad 50), .ref (ad 51), .ref (ad 52), .ref (ad 53), .ref (ad 54), .ref (ad 55)] : List Value).set 8 (.int v))) = zW ca ad (va_up M 38 (upd (M 38) 3 v)) := z_set (k := 38) (by decide) (upd (M 38) 3 v)
theorem zs_38_4 (v : Int32) : (zW ca ad M).set 38 (ad 38, .inr (7, ([.int (M 38 0), .int (M 38 1), .int (M 38 2), .ref (ad 39), .ref (ad 40), .ref (ad 41), .ref (ad 42), .ref (ad 43), .int (M 38 3), .ref (ad 44), .ref (ad 45), .ref (ad 46), .ref (ad 47), .ref (ad 48), .int (M 38 4), .ref (ad 49), .ref (ad 50), .ref (ad 51), .ref (ad 52), .ref (ad 53), .ref (ad 54), .ref (ad 55)] : List Value).set 14 (.int v))) = zW ca ad (va_up M 38 (upd (M 38) 4 v)) := z_set (k := 38) (by decide) (upd (M 38) 4 v)
theorem zr_2 : (zW ca ad M)[2]? = some (ad 2, .inl (ca 1, 6, .inr (.inr (.inr (.inr (fun j => some (ad (14 + j)))))))) := z_at (k := 2) (by decide)
theorem zr_4 : (zW ca ad M)[4]? = some (ad 4, .inl (ca 0, 60, .inl (M 4))) := z_at (k := 4) (by decide)
theorem zs_4 (j : Nat) (v : Int32) : (zW ca ad M).set 4 (ad 4, .inl (ca 0, 60, .inl (upd (M 4) j v))) = zW ca ad (va_up M 4 (upd (M 4) j v)) := z_set (k := 4) (by decide) (upd (M 4) j v)
theorem zr_5 : (zW ca ad M)[5]? = some (ad 5, .inl (ca 0, 60, .inl (M 5))) := z_at (k := 5) (by decide)
theorem zs_5 (j : Nat) (v : Int32) : (zW ca ad M).set 5 (ad 5, .inl (ca 0, 60, .inl (upd (M 5) j v))) = zW ca ad (va_up M 5 (upd (M 5) j v)) := z_set (k := 5) (by decide) (upd (M 5) j v)
theorem zr_6 : (zW ca ad M)[6]? = some (ad 6, .inl (ca 0, 60, .inl (M 6))) := z_at (k := 6) (by decide)
theorem zs_6 (j : Nat) (v : Int32) : (zW ca ad M).set 6 (ad 6, .inl (ca 0, 60, .inl (upd (M 6) j v))) = zW ca ad (va_up M 6 (upd (M 6) j v)) := z_set (k := 6) (by decide) (upd (M 6) j v)
theorem zr_8 : (zW ca ad M)[8]? = some (ad 8, .inl (ca 0, 6, .inl (M 8))) := z_at (k := 8) (by decide)
theorem zs_8 (j : Nat) (v : Int32) : (zW ca ad M).set 8 (ad 8, .inl (ca 0, 6, .inl (upd (M 8) j v))) = zW ca ad (va_up M 8 (upd (M 8) j v)) := z_set (k := 8) (by decide) (upd (M 8) j v)
theorem zr_9 : (zW ca ad M)[9]? = some (ad 9, .inl (ca 0, 6, .inl (M 9))) := z_at (k := 9) (by decide)
theorem zs_9 (j : Nat) (v : Int32) : (zW ca ad M).set 9 (ad 9, .inl (ca 0, 6, .inl (upd (M 9) j v))) = zW ca ad (va_up M 9 (upd (M 9) j v)) := z_set (k := 9) (by decide) (upd (M 9) j v)
theorem zr_11 : (zW ca ad M)[11]? = some (ad 11, .inl (ca 0, 64, .inl (M 11))) := z_at (k := 11) (by decide)
theorem zs_11 (j : Nat) (v : Int32) : (zW ca ad M).set 11 (ad 11, .inl (ca 0, 64, .inl (upd (M 11) j v))) = zW ca ad (va_up M 11 (upd (M 11) j v)) := z_set (k := 11) (by decide) (upd (M 11) j v)
theorem zr_12 : (zW ca ad M)[12]? = some (ad 12, .inl (ca 0, 16, .inl (M 12))) := z_at (k := 12) (by decide)
theorem zs_12 (j : Nat) (v : Int32) : (zW ca ad M).set 12 (ad 12, .inl (ca 0, 16, .inl (upd (M 12) j v))) = zW ca ad (va_up M 12 (upd (M 12) j v)) := z_set (k := 12) (by decide) (upd (M 12) j v)
theorem zr_13 : (zW ca ad M)[13]? = some (ad 13, .inl (ca 0, 240, .inl (M 13))) := z_at (k := 13) (by decide)
theorem zs_13 (j : Nat) (v : Int32) : (zW ca ad M).set 13 (ad 13, .inl (ca 0, 240, .inl (upd (M 13) j v))) = zW ca ad (va_up M 13 (upd (M 13) j v)) := z_set (k := 13) (by decide) (upd (M 13) j v)
theorem zr_39 : (zW ca ad M)[39]? = some (ad 39, .inl (ca 0, 6, .inl (M 39))) := z_at (k := 39) (by decide)
theorem zs_39 (j : Nat) (v : Int32) : (zW ca ad M).set 39 (ad 39, .inl (ca 0, 6, .inl (upd (M 39) j v))) = zW ca ad (va_up M 39 (upd (M 39) j v)) := z_set (k := 39) (by decide) (upd (M 39) j v)
theorem zr_40 : (zW ca ad M)[40]? = some (ad 40, .inl (ca 0, 6, .inl (M 40))) := z_at (k := 40) (by decide)
theorem zs_40 (j : Nat) (v : Int32) : (zW ca ad M).set 40 (ad 40, .inl (ca 0, 6, .inl (upd (M 40) j v))) = zW ca ad (va_up M 40 (upd (M 40) j v)) := z_set (k := 40) (by decide) (upd (M 40) j v)
theorem zr_41 : (zW ca ad M)[41]? = some (ad 41, .inl (ca 0, 6, .inl (M 41))) := z_at (k := 41) (by decide)
theorem zs_41 (j : Nat) (v : Int32) : (zW ca ad M).set 41 (ad 41, .inl (ca 0, 6, .inl (upd (M 41) j v))) = zW ca ad (va_up M 41 (upd (M 41) j v)) := z_set (k := 41) (by decide) (upd (M 41) j v)
theorem zr_42 : (zW ca ad M)[42]? = some (ad 42, .inl (ca 0, 6, .inl (M 42))) := z_at (k := 42) (by decide)
theorem zs_42 (j : Nat) (v : Int32) : (zW ca ad M).set 42 (ad 42, .inl (ca 0, 6, .inl (upd (M 42) j v))) = zW ca ad (va_up M 42 (upd (M 42) j v)) := z_set (k := 42) (by decide) (upd (M 42) j v)
theorem zr_43 : (zW ca ad M)[43]? = some (ad 43, .inl (ca 0, 6, .inl (M 43))) := z_at (k := 43) (by decide)
theorem zs_43 (j : Nat) (v : Int32) : (zW ca ad M).set 43 (ad 43, .inl (ca 0, 6, .inl (upd (M 43) j v))) = zW ca ad (va_up M 43 (upd (M 43) j v)) := z_set (k := 43) (by decide) (upd (M 43) j v)
theorem zr_44 : (zW ca ad M)[44]? = some (ad 44, .inl (ca 0, 60, .inl (M 44))) := z_at (k := 44) (by decide)
theorem zs_44 (j : Nat) (v : Int32) : (zW ca ad M).set 44 (ad 44, .inl (ca 0, 60, .inl (upd (M 44) j v))) = zW ca ad (va_up M 44 (upd (M 44) j v)) := z_set (k := 44) (by decide) (upd (M 44) j v)
theorem zr_45 : (zW ca ad M)[45]? = some (ad 45, .inl (ca 0, 60, .inl (M 45))) := z_at (k := 45) (by decide)
theorem zs_45 (j : Nat) (v : Int32) : (zW ca ad M).set 45 (ad 45, .inl (ca 0, 60, .inl (upd (M 45) j v))) = zW ca ad (va_up M 45 (upd (M 45) j v)) := z_set (k := 45) (by decide) (upd (M 45) j v)
theorem zr_46 : (zW ca ad M)[46]? = some (ad 46, .inl (ca 0, 60, .inl (M 46))) := z_at (k := 46) (by decide)
theorem zs_46 (j : Nat) (v : Int32) : (zW ca ad M).set 46 (ad 46, .inl (ca 0, 60, .inl (upd (M 46) j v))) = zW ca ad (va_up M 46 (upd (M 46) j v)) := z_set (k := 46) (by decide) (upd (M 46) j v)
theorem zr_47 : (zW ca ad M)[47]? = some (ad 47, .inl (ca 0, 64, .inl (M 47))) := z_at (k := 47) (by decide)
theorem zs_47 (j : Nat) (v : Int32) : (zW ca ad M).set 47 (ad 47, .inl (ca 0, 64, .inl (upd (M 47) j v))) = zW ca ad (va_up M 47 (upd (M 47) j v)) := z_set (k := 47) (by decide) (upd (M 47) j v)
theorem zr_48 : (zW ca ad M)[48]? = some (ad 48, .inl (ca 0, 16, .inl (M 48))) := z_at (k := 48) (by decide)
theorem zs_48 (j : Nat) (v : Int32) : (zW ca ad M).set 48 (ad 48, .inl (ca 0, 16, .inl (upd (M 48) j v))) = zW ca ad (va_up M 48 (upd (M 48) j v)) := z_set (k := 48) (by decide) (upd (M 48) j v)
theorem zr_50 : (zW ca ad M)[50]? = some (ad 50, .inl (ca 0, 6, .inl (M 50))) := z_at (k := 50) (by decide)
theorem zs_50 (j : Nat) (v : Int32) : (zW ca ad M).set 50 (ad 50, .inl (ca 0, 6, .inl (upd (M 50) j v))) = zW ca ad (va_up M 50 (upd (M 50) j v)) := z_set (k := 50) (by decide) (upd (M 50) j v)
theorem zr_51 : (zW ca ad M)[51]? = some (ad 51, .inl (ca 0, 6, .inl (M 51))) := z_at (k := 51) (by decide)
theorem zs_51 (j : Nat) (v : Int32) : (zW ca ad M).set 51 (ad 51, .inl (ca 0, 6, .inl (upd (M 51) j v))) = zW ca ad (va_up M 51 (upd (M 51) j v)) := z_set (k := 51) (by decide) (upd (M 51) j v)
theorem zr_52 : (zW ca ad M)[52]? = some (ad 52, .inl (ca 0, 6, .inl (M 52))) := z_at (k := 52) (by decide)
theorem zs_52 (j : Nat) (v : Int32) : (zW ca ad M).set 52 (ad 52, .inl (ca 0, 6, .inl (upd (M 52) j v))) = zW ca ad (va_up M 52 (upd (M 52) j v)) := z_set (k := 52) (by decide) (upd (M 52) j v)
theorem zr_53 : (zW ca ad M)[53]? = some (ad 53, .inl (ca 0, 24, .inl (M 53))) := z_at (k := 53) (by decide)
theorem zs_53 (j : Nat) (v : Int32) : (zW ca ad M).set 53 (ad 53, .inl (ca 0, 24, .inl (upd (M 53) j v))) = zW ca ad (va_up M 53 (upd (M 53) j v)) := z_set (k := 53) (by decide) (upd (M 53) j v)
theorem zr_54 : (zW ca ad M)[54]? = some (ad 54, .inl (ca 0, 24, .inl (M 54))) := z_at (k := 54) (by decide)
theorem zs_54 (j : Nat) (v : Int32) : (zW ca ad M).set 54 (ad 54, .inl (ca 0, 24, .inl (upd (M 54) j v))) = zW ca ad (va_up M 54 (upd (M 54) j v)) := z_set (k := 54) (by decide) (upd (M 54) j v)
theorem zr_55 : (zW ca ad M)[55]? = some (ad 55, .inl (ca 0, 240, .inl (M 55))) := z_at (k := 55) (by decide)
theorem zs_55 (j : Nat) (v : Int32) : (zW ca ad M).set 55 (ad 55, .inl (ca 0, 240, .inl (upd (M 55) j v))) = zW ca ad (va_up M 55 (upd (M 55) j v)) := z_set (k := 55) (by decide) (upd (M 55) j v)
theorem zr_49 : (zW ca ad M)[49]? = some (ad 49, .inl (ca 2, 6, .inl (M 49))) := z_at (k := 49) (by decide)
theorem zs_49 (j : Nat) (v : Int32) : (zW ca ad M).set 49 (ad 49, .inl (ca 2, 6, .inl (upd (M 49) j v))) = zW ca ad (va_up M 49 (upd (M 49) j v)) := z_set (k := 49) (by decide) (upd (M 49) j v)
theorem zr_56 : (zW ca ad M)[56]? = some (ad 56, .inl (ca 3, 1, .inr (.inl (fun j => (M 56 j).toInt64)))) := z_at (k := 56) (by decide)
theorem zs_56 (j : Nat) (v : Int32) : (zW ca ad M).set 56 (ad 56, .inl (ca 3, 1, .inr (.inl (vp_updL (fun j => (M 56 j).toInt64) j v.toInt64)))) = zW ca ad (va_up M 56 (upd (M 56) j v)) := by
  rw [← z_set (k := 56) (by decide) (upd (M 56) j v)]
  have e : vp_updL (fun j => (M 56 j).toInt64) j v.toInt64 = fun i => (upd (M 56) j v i).toInt64 := by
    funext i
    unfold vp_updL upd
    by_cases h : i = j
    · rw [if_pos h, if_pos h]
    · rw [if_neg h, if_neg h]
  rw [e]
  rfl
theorem zC_Tk {t : Nat} (ht : t < 6) (r : Nat → Int32) : zC ca ad (14 + t) r = .inr (4, [.int (r 0), .int (r 1), .int (r 2), .int (r 3), .int (r 4), .ref (ad (20 + t)), .ref (ad (32 + t))]) := by
  unfold zC
  rw [if_neg (by omega), if_pos (by omega), show 14 + t + 6 = 20 + t by omega, show 14 + t + 18 = 32 + t by omega]
theorem zr_Tk {t : Nat} (ht : t < 6) : (zW ca ad M)[14 + t]? = some (ad (14 + t), .inr (4, [.int (M (14 + t) 0), .int (M (14 + t) 1), .int (M (14 + t) 2), .int (M (14 + t) 3), .int (M (14 + t) 4), .ref (ad (20 + t)), .ref (ad (32 + t))])) := by
  rw [z_at (by omega), zC_Tk ht]
theorem zs_Tk_0 {t : Nat} (ht : t < 6) (v : Int32) : (zW ca ad M).set (14 + t) (ad (14 + t), .inr (4, ([.int (M (14 + t) 0), .int (M (14 + t) 1), .int (M (14 + t) 2), .int (M (14 + t) 3), .int (M (14 + t) 4), .ref (ad (20 + t)), .ref (ad (32 + t))] : List Value).set 0 (.int v))) = zW ca ad (va_up M (14 + t) (upd (M (14 + t)) 0 v)) := by
  rw [← z_set (by omega), zC_Tk ht]
  rfl
theorem zs_Tk_1 {t : Nat} (ht : t < 6) (v : Int32) : (zW ca ad M).set (14 + t) (ad (14 + t), .inr (4, ([.int (M (14 + t) 0), .int (M (14 + t) 1), .int (M (14 + t) 2), .int (M (14 + t) 3), .int (M (14 + t) 4), .ref (ad (20 + t)), .ref (ad (32 + t))] : List Value).set 1 (.int v))) = zW ca ad (va_up M (14 + t) (upd (M (14 + t)) 1 v)) := by
  rw [← z_set (by omega), zC_Tk ht]
  rfl
theorem zs_Tk_2 {t : Nat} (ht : t < 6) (v : Int32) : (zW ca ad M).set (14 + t) (ad (14 + t), .inr (4, ([.int (M (14 + t) 0), .int (M (14 + t) 1), .int (M (14 + t) 2), .int (M (14 + t) 3), .int (M (14 + t) 4), .ref (ad (20 + t)), .ref (ad (32 + t))] : List Value).set 2 (.int v))) = zW ca ad (va_up M (14 + t) (upd (M (14 + t)) 2 v)) := by
  rw [← z_set (by omega), zC_Tk ht]
  rfl
theorem zs_Tk_3 {t : Nat} (ht : t < 6) (v : Int32) : (zW ca ad M).set (14 + t) (ad (14 + t), .inr (4, ([.int (M (14 + t) 0), .int (M (14 + t) 1), .int (M (14 + t) 2), .int (M (14 + t) 3), .int (M (14 + t) 4), .ref (ad (20 + t)), .ref (ad (32 + t))] : List Value).set 3 (.int v))) = zW ca ad (va_up M (14 + t) (upd (M (14 + t)) 3 v)) := by
  rw [← z_set (by omega), zC_Tk ht]
  rfl
theorem zs_Tk_4 {t : Nat} (ht : t < 6) (v : Int32) : (zW ca ad M).set (14 + t) (ad (14 + t), .inr (4, ([.int (M (14 + t) 0), .int (M (14 + t) 1), .int (M (14 + t) 2), .int (M (14 + t) 3), .int (M (14 + t) 4), .ref (ad (20 + t)), .ref (ad (32 + t))] : List Value).set 4 (.int v))) = zW ca ad (va_up M (14 + t) (upd (M (14 + t)) 4 v)) := by
  rw [← z_set (by omega), zC_Tk ht]
  rfl
theorem zC_Jb {t : Nat} (ht : t < 6) (r : Nat → Int32) : zC ca ad (20 + t) r = .inr (0, [.ref (ad (26 + t)), .int (r 0), .int (r 1), .int (r 2), .int (r 3)]) := by
  unfold zC
  rw [if_neg (by omega), if_neg (by omega), if_pos (by omega), show 20 + t + 6 = 26 + t by omega]
theorem zr_Jb {t : Nat} (ht : t < 6) : (zW ca ad M)[20 + t]? = some (ad (20 + t), .inr (0, [.ref (ad (26 + t)), .int (M (20 + t) 0), .int (M (20 + t) 1), .int (M (20 + t) 2), .int (M (20 + t) 3)])) := by
  rw [z_at (by omega), zC_Jb ht]
theorem zs_Jb_0 {t : Nat} (ht : t < 6) (v : Int32) : (zW ca ad M).set (20 + t) (ad (20 + t), .inr (0, ([.ref (ad (26 + t)), .int (M (20 + t) 0), .int (M (20 + t) 1), .int (M (20 + t) 2), .int (M (20 + t) 3)] : List Value).set 1 (.int v))) = zW ca ad (va_up M (20 + t) (upd (M (20 + t)) 0 v)) := by
  rw [← z_set (by omega), zC_Jb ht]
  rfl
theorem zs_Jb_1 {t : Nat} (ht : t < 6) (v : Int32) : (zW ca ad M).set (20 + t) (ad (20 + t), .inr (0, ([.ref (ad (26 + t)), .int (M (20 + t) 0), .int (M (20 + t) 1), .int (M (20 + t) 2), .int (M (20 + t) 3)] : List Value).set 2 (.int v))) = zW ca ad (va_up M (20 + t) (upd (M (20 + t)) 1 v)) := by
  rw [← z_set (by omega), zC_Jb ht]
  rfl
theorem zs_Jb_2 {t : Nat} (ht : t < 6) (v : Int32) : (zW ca ad M).set (20 + t) (ad (20 + t), .inr (0, ([.ref (ad (26 + t)), .int (M (20 + t) 0), .int (M (20 + t) 1), .int (M (20 + t) 2), .int (M (20 + t) 3)] : List Value).set 3 (.int v))) = zW ca ad (va_up M (20 + t) (upd (M (20 + t)) 2 v)) := by
  rw [← z_set (by omega), zC_Jb ht]
  rfl
theorem zs_Jb_3 {t : Nat} (ht : t < 6) (v : Int32) : (zW ca ad M).set (20 + t) (ad (20 + t), .inr (0, ([.ref (ad (26 + t)), .int (M (20 + t) 0), .int (M (20 + t) 1), .int (M (20 + t) 2), .int (M (20 + t) 3)] : List Value).set 4 (.int v))) = zW ca ad (va_up M (20 + t) (upd (M (20 + t)) 3 v)) := by
  rw [← z_set (by omega), zC_Jb ht]
  rfl
theorem zC_rg {t : Nat} (ht : t < 6) (r : Nat → Int32) : zC ca ad (26 + t) r = .inl (ca 0, 4, .inl r) := by
  unfold zC
  rw [if_neg (by omega), if_neg (by omega), if_neg (by omega), if_pos (by omega)]
theorem zr_rg {t : Nat} (ht : t < 6) : (zW ca ad M)[26 + t]? = some (ad (26 + t), .inl (ca 0, 4, .inl (M (26 + t)))) := by
  rw [z_at (by omega), zC_rg ht]
theorem zs_rg {t : Nat} (ht : t < 6) (j : Nat) (v : Int32) : (zW ca ad M).set (26 + t) (ad (26 + t), .inl (ca 0, 4, .inl (upd (M (26 + t)) j v))) = zW ca ad (va_up M (26 + t) (upd (M (26 + t)) j v)) := by
  rw [← z_set (by omega), zC_rg ht]
theorem zC_ct {t : Nat} (ht : t < 6) (r : Nat → Int32) : zC ca ad (32 + t) r = .inl (ca 0, 4, .inl r) := by
  unfold zC
  rw [if_neg (by omega), if_neg (by omega), if_neg (by omega), if_pos (by omega)]
theorem zr_ct {t : Nat} (ht : t < 6) : (zW ca ad M)[32 + t]? = some (ad (32 + t), .inl (ca 0, 4, .inl (M (32 + t)))) := by
  rw [z_at (by omega), zC_ct ht]
theorem zs_ct {t : Nat} (ht : t < 6) (j : Nat) (v : Int32) : (zW ca ad M).set (32 + t) (ad (32 + t), .inl (ca 0, 4, .inl (upd (M (32 + t)) j v))) = zW ca ad (va_up M (32 + t) (upd (M (32 + t)) j v)) := by
  rw [← z_set (by omega), zC_ct ht]
theorem zr_gen {k n : Nat} (hk : k < 57) (hC : ∀ r, zC ca ad k r = .inl (ca 0, n, .inl r)) : (zW ca ad M)[k]? = some (ad k, .inl (ca 0, n, .inl (M k))) := by
  rw [z_at hk, hC]
theorem zs_gen {k n : Nat} (hk : k < 57) (hC : ∀ r, zC ca ad k r = .inl (ca 0, n, .inl r)) (j : Nat) (v : Int32) : (zW ca ad M).set k (ad k, .inl (ca 0, n, .inl (upd (M k) j v))) = zW ca ad (va_up M k (upd (M k) j v)) := by
  rw [← z_set hk, hC]
/-- one number is written -/
def zst (M : Nat → Nat → Int32) (k j : Nat) (v : Int32) : Nat → Nat → Int32 := va_up M k (upd (M k) j v)
theorem zst_ap (M : Nat → Nat → Int32) (k j : Nat) (v : Int32) (a b : Nat) : zst M k j v a b = if a = k ∧ b = j then v else M a b := by
  unfold zst va_up upd
  by_cases h : a = k
  · subst h
    rw [if_pos rfl]
    by_cases h2 : b = j
    · rw [if_pos h2, if_pos ⟨rfl, h2⟩]
    · rw [if_neg h2, if_neg (fun h3 => h2 h3.2)]
  · rw [if_neg h, if_neg (fun h3 => h h3.1)]
/-- a row is filled up to n -/
def zfl (M : Nat → Nat → Int32) (k n : Nat) (v : Int32) : Nat → Nat → Int32 := va_up M k (fun j => if j < n then v else M k j)
theorem zfl_ap (M : Nat → Nat → Int32) (k n : Nat) (v : Int32) (a b : Nat) : zfl M k n v a b = if a = k ∧ b < n then v else M a b := by
  unfold zfl va_up
  by_cases h : a = k
  · subst h
    rw [if_pos rfl]
    by_cases h2 : b < n
    · rw [if_pos h2, if_pos ⟨rfl, h2⟩]
    · rw [if_neg h2, if_neg (fun h3 => h2 h3.2)]
  · rw [if_neg h, if_neg (fun h3 => h h3.1)]
theorem zM_ext {M1 M2 : Nat → Nat → Int32} (h : ∀ a b, M1 a b = M2 a b) : M1 = M2 := funext fun a => funext fun b => h a b
theorem zfl_0 (M : Nat → Nat → Int32) (k : Nat) (v : Int32) : M = zfl M k 0 v := zM_ext fun a b => by rw [zfl_ap, if_neg (fun h => absurd h.2 (Nat.not_lt_zero _))]
theorem zfl_s (M : Nat → Nat → Int32) (k n : Nat) (v : Int32) : zst (zfl M k n v) k n v = zfl M k (n + 1) v := zM_ext fun a b => by
  rw [zst_ap, zfl_ap, zfl_ap]
  by_cases h : a = k
  · by_cases h2 : b = n
    · rw [if_pos ⟨h, h2⟩, if_pos ⟨h, by omega⟩]
    · rw [if_neg (fun h3 => h2 h3.2)]
      by_cases h4 : b < n
      · rw [if_pos ⟨h, h4⟩, if_pos ⟨h, by omega⟩]
      · rw [if_neg (fun h3 => h4 h3.2), if_neg (fun h3 => h4 (by omega))]
  · rw [if_neg (fun h3 => h h3.1), if_neg (fun h3 => h h3.1), if_neg (fun h3 => h h3.1)]
end ZW
