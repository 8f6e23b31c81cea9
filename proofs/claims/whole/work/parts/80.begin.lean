section LAWS
variable {p : Program} {l : Launch} {e : Env} {R : Room} {s : State} {m : MethodId} {args : Array Value} {below : List Frame} {meth : Method} {c : Code} {cells slots : Nat} {Q : State → Prop}
variable {nL pc : Nat} {D : va_G} {cl : List vw_C} {A : Nat → Prop} {H0 : Heap} {ws : va_W} {lv : List (Nat × Value)} {st : List Value}
theorem va_q6 {cA : ClassId} {n : Nat} {f g : Nat → Option Nat} (h : ∀ j, j < n → f j = g j) : vp_cell cA (n, .inr (.inr (.inr (.inr f)))) = vp_cell cA (n, .inr (.inr (.inr (.inr g)))) := by
  have e9 : (fun j : Fin n => va_rf (f j.val)) = (fun j : Fin n => va_rf (g j.val)) := funext fun j => by rw [h j.val j.isLt]
  exact congrArg (fun z : Fin n → Value => ({ cls := cA, slots := Array.ofFn z, vm := .none } : Cell)) e9
theorem xw_cell (q0 : Nat) {a : Nat} {e0 e1 : va_E} (he : ws[q0]? = some (a, e0)) (hat : ∀ H, va_at D cl (a, e0) H → va_at D cl (a, e1) H) {ws' : va_W} (hws : ws.set q0 (a, e1) = ws') (kk : XW p l e R s m args below meth c D cl A H0 nL ws' cells slots Q pc lv st) : XW p l e R s m args below meth c D cl A H0 nL ws cells slots Q pc lv st := by
  subst hws
  intro H locs ls hP hD hS hl
  refine kk H locs ls (fun k q hk => ?_) (hD.set he) hS hl
  rw [List.getElem?_set] at hk
  by_cases hq : q0 = k
  · rw [if_pos hq] at hk
    by_cases hlt : q0 < ws.length
    · rw [if_pos hlt] at hk
      cases hk
      exact hat H (hP q0 _ he)
    · rw [if_neg hlt] at hk
      cases hk
  · rw [if_neg hq] at hk
    exact hP k q hk
theorem xw_perm (is : List Nat) (hn : va_nd is = true) {ws' : va_W} (hs : is.map (fun i => ws[i]?) = ws'.map some) (kk : XW p l e R s m args below meth c D cl A H0 nL ws' cells slots Q pc lv st) : XW p l e R s m args below meth c D cl A H0 nL ws cells slots Q pc lv st := by
  intro H locs ls hP hD hS hl
  refine kk H locs ls (fun k q hk => ?_) (hD.sub is hn hs) hS hl
  have h1 : (is.map (fun i => ws[i]?))[k]? = some (some q) := by
    rw [hs, List.getElem?_map, hk]
    rfl
  rw [List.getElem?_map] at h1
  cases h2 : is[k]? with
  | none => rw [h2] at h1; cases h1
  | some i =>
    rw [h2] at h1
    exact hP i q (Option.some.inj h1)
end LAWS
/-- all numbers at the start -/
def M0 (k : Nat) : Nat → Int32 := if k = 0 then (fun j => if j = 1 then nI 1 else nI 0) else if 14 ≤ k ∧ k < 20 then (fun j => if j = 0 then nI 1 else nI 0) else fun _ => nI 0
theorem RelS_0 : RelS M0 M0 0 (fun _ => 0) (fun _ => 0) (fun _ => 0) (fun _ => 0) 0 (fun _ => 0) (fun _ => 0) (fun _ => 0) 0 0 :=
  ⟨⟨by omega, rfl, fun t ht => absurd ht (by omega)⟩, ⟨by omega, rfl, fun t ht => absurd ht (by omega)⟩, ⟨rfl, by omega, fun t ht => absurd ht (by omega)⟩, ⟨rfl, by omega, fun t ht => absurd ht (by omega)⟩, fun t ht => absurd ht (by omega), fun t ht => absurd ht (by omega), ⟨fun _ _ => rfl, fun _ _ => rfl, fun t ht => absurd ht (by omega)⟩, ⟨rfl, rfl, by omega⟩, ⟨rfl, rfl⟩, fun h => absurd h (by decide)⟩
theorem LwE_0 : LwE M0 0 := ⟨0, _, _, _, _, 0, _, _, _, 0, 0, RelS_0, by omega⟩

def lwAd (q1 : Nat) (ux : Nat → Nat) (q2 : Nat) (um : Nat → Nat) (q3 : Nat) : Nat → Nat := fun k => ([q1, ux 0, ux 1, ux 26, ux 27, ux 28, ux 29, ux 30, ux 31, ux 32, ux 33, ux 34, ux 35, ux 36, ux 2, ux 6, ux 10, ux 14, ux 18, ux 22, ux 3, ux 7, ux 11, ux 15, ux 19, ux 23, ux 4, ux 8, ux 12, ux 16, ux 20, ux 24, ux 5, ux 9, ux 13, ux 17, ux 21, ux 25, q2, um 0, um 1, um 2, um 3, um 4, um 5, um 6, um 7, um 8, um 9, um 10, um 11, um 12, um 13, um 14, um 15, um 16, q3] : List Nat).getD k 0
def lwIs : List Nat := [0, 1, 2, 27, 28, 29, 30, 31, 32, 33, 34, 35, 36, 37, 3, 7, 11, 15, 19, 23, 4, 8, 12, 16, 20, 24, 5, 9, 13, 17, 21, 25, 6, 10, 14, 18, 22, 26, 38, 39, 40, 41, 42, 43, 44, 45, 46, 47, 48, 49, 50, 51, 52, 53, 54, 55, 56]
theorem lwIs_nd : va_nd lwIs = true := by decide +kernel
def lwW (ca : Nat → ClassId) (q1 : Nat) (ux : Nat → Nat) (q2 : Nat) (um : Nat → Nat) (q3 : Nat) : va_W := ((([] ++ nw_Ex ca q1 ux) ++ nw_Md ca q2 um) ++ [(q3, .inl (ca 3, 1, .inr (.inl (fun _ => (nI 0).toInt64))))] : va_W).set 2 (ux 1, (.inl (ca 1, 6, .inr (.inr (.inr (.inr (fun j => some (lwAd q1 ux q2 um q3 (14 + j)))))))))
theorem lw_f6 (q1 : Nat) (ux : Nat → Nat) (q2 : Nat) (um : Nat → Nat) (q3 : Nat) : ∀ j, j < 6 → (va_up (va_up (va_up (va_up (va_up (va_up (fun _ => none) 0 (some (ux 2))) 1 (some (ux 6))) 2 (some (ux 10))) 3 (some (ux 14))) 4 (some (ux 18))) 5 (some (ux 22))) j = some (lwAd q1 ux q2 um q3 (14 + j)) := by
  intro j hj
  have h : j = 0 ∨ j = 1 ∨ j = 2 ∨ j = 3 ∨ j = 4 ∨ j = 5 := by omega
  rcases h with rfl | rfl | rfl | rfl | rfl | rfl
  all_goals rfl
set_option maxHeartbeats 4000000 in
set_option maxRecDepth 100000 in
theorem lw_perm (ca : Nat → ClassId) (q1 : Nat) (ux : Nat → Nat) (q2 : Nat) (um : Nat → Nat) (q3 : Nat) : lwIs.map (fun i => (lwW ca q1 ux q2 um q3)[i]?) = (zW ca (lwAd q1 ux q2 um q3) M0).map some := rfl

set_option maxHeartbeats 4000000 in
set_option maxRecDepth 100000 in
theorem lw_begin {p : Program} {l : Launch} {e : Env} {s : State} {m : MethodId} {below : List Frame} {meth : Method} {c : Code} {Q : State → Prop} {D : va_G} {ca : Nat → ClassId} {sa : Nat → Nat} {b L : Nat} {xs : Nat → Int32} (H : LwC p l s m c D ca sa b L xs) (hK2 : zK2 s)
    (kk : ∀ ad : Nat → Nat, XW p l e room_1 s m #[Value.ref b] below meth c D zCl (fun q => s.heap.size ≤ q) s.heap 7 (zW ca ad M0) (57 + 4 * 0) (1281 + 24 * 0) Q 23 [(0, .ref b), (1, .ref (ad 0)), (2, .ref (ad 38)), (3, .ref (ad 56)), (4, .int (nI 0))] []) : XW p l e room_1 s m #[Value.ref b] below meth c D zCl (fun q => s.heap.size ≤ q) s.heap 7 [] 0 0 Q 0 [(0, .ref b)] [] := by
  obtain ⟨C, hKL, hX, hbl, hl0, hL⟩ := H
  refine xw_new C (ci := 6) u_Ex t_Ex t_Ex_ok k_40 k_41 k_24 rfl [.null, .null, .null, .null, .null, .int (nI 0), .int (nI 0), .int (nI 0)] v0_Ex (by decide) (by decide) d_Lw_law_0 (pc' := 3) rfl (fun q1 => ?_)
  refine xw_dup C d_Lw_law_3 rfl (pc' := 4) rfl ?_
  refine xw_callIv C (c_Ex_init l D ca [] q1) ⟨zg_B C 0 k_42 k_24 k_44 q_Ex_init ⟨by decide, by decide⟩, rfl, C.2.2.2.2.1 _ k_43⟩ (fun _ _ _ _ h => h.call) (fun _ _ _ _ _ _ hW => hK2.warm hW) rfl rfl (Nat.le_of_ble_eq_true rfl) d_Lw_law_4 ⟨by decide, by decide⟩ (pc' := 7) rfl (fun ux _ => ?_)
  refine xw_astore_n C d_Lw_law_7 rfl (by decide) rfl (pc' := 8) rfl ?_
  refine xw_new C (ci := 7) u_Md t_Md t_Md_ok k_564 k_565 k_31 rfl [.int (nI 0), .int (nI 0), .int (nI 0), .null, .null, .null, .null, .null, .int (nI 0), .null, .null, .null, .null, .null, .int (nI 0), .null, .null, .null, .null, .null, .null, .null] v0_Md (by decide) (by decide) d_Lw_law_8 (pc' := 11) rfl (fun q2 => ?_)
  refine xw_dup C d_Lw_law_11 rfl (pc' := 12) rfl ?_
  refine xw_callIv C (c_Md_init l D ca ([] ++ nw_Ex ca q1 ux) q2) ⟨zg_B C 0 k_566 k_31 k_568 q_Md_init ⟨by decide, by decide⟩, rfl, C.2.2.2.2.1 _ k_567⟩ (fun _ _ _ _ h => h) (fun _ _ _ _ _ _ _ => trivial) rfl rfl (Nat.le_of_ble_eq_true rfl) d_Lw_law_12 ⟨by decide, by decide⟩ (pc' := 15) rfl (fun um _ => ?_)
  refine xw_astore_n C d_Lw_law_15 rfl (by decide) rfl (pc' := 16) rfl ?_
  refine xw_iconst C (v := nI 1) d_Lw_law_16 (by decide) (pc' := 17) rfl ?_
  have e0 : (nI 0).toInt64 = (0 : Int64) := by decide
  refine xw_newa C (ty := .long) k_762 rfl 3 rfl (1, .inr (.inl (fun _ => (nI 0).toInt64))) (N' := 1) (fun _ => by rw [e0]; rfl) (by decide) (by decide) (by decide) (by decide) (by decide) d_Lw_law_17 (pc' := 19) rfl (fun q3 => ?_)
  refine xw_astore_n C d_Lw_law_19 rfl (by decide) rfl (pc' := 20) rfl ?_
  refine xw_iconst C (v := nI 0) d_Lw_law_20 (by decide) (pc' := 21) rfl ?_
  refine xw_istore C d_Lw_law_21 (by decide) rfl (pc' := 23) rfl ?_
  refine xw_cell 2 (a := ux 1) (e1 := (.inl (ca 1, 6, .inr (.inr (.inr (.inr (fun j => some (lwAd q1 ux q2 um q3 (14 + j))))))))) (ws' := lwW ca q1 ux q2 um q3) rfl (fun H h => by have h9 := va_q6 (cA := ca 1) (lw_f6 q1 ux q2 um q3); exact h.trans (congrArg some h9)) rfl ?_
  refine xw_perm lwIs lwIs_nd (ws' := zW ca (lwAd q1 ux q2 um q3) M0) (lw_perm ca q1 ux q2 um q3) ?_
  refine xw_lv [4, 3, 2, 1, 0] rfl ?_
  exact kk (lwAd q1 ux q2 um q3)

