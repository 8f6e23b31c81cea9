def xs_mx (f : Nat → Nat) : Nat → Nat
  | 0 => 0
  | n + 1 => if xs_mx f n < f n then f n else xs_mx f n
theorem xs_mx_le {f : Nat → Nat} {n b : Nat} (h : ∀ j, j < n → f j ≤ b) : xs_mx f n ≤ b := by
  induction n with
  | zero => exact Nat.zero_le _
  | succ n ih =>
    have q := ih (fun j hj => h j (by omega))
    show (if xs_mx f n < f n then f n else xs_mx f n) ≤ b
    by_cases c : xs_mx f n < f n
    · rw [if_pos c]; exact h n (by omega)
    · rw [if_neg c]; exact q
theorem xs_mx_nI {f : Nat → Nat} {i : Nat} (h1 : xs_mx f i < 2 ^ 31) (h2 : f i < 2 ^ 31) : (if nI (xs_mx f i) < nI (f i) then nI (f i) else nI (xs_mx f i)) = nI (xs_mx f (i + 1)) := by
  show _ = nI (if xs_mx f i < f i then f i else xs_mx f i)
  by_cases c : xs_mx f i < f i
  · rw [if_pos c, if_pos ((nI_ltI h1 h2).mpr c)]
  · rw [if_neg c, if_neg (fun q => c ((nI_ltI h1 h2).mp q))]
def zRel (M : Nat → Nat → Int32) (of per : Nat → Nat) (tm : Nat) : Nat → Nat → Nat → Int32
  | 0 => M
  | i + 1 => if sp_rel (of i) (per i) tm then zJob (zRel M of per tm i) i (M (14 + i) 4) (nI tm) else zRel M of per tm i
theorem zJob_out {M : Nat → Nat → Int32} {t : Nat} {fp tm : Int32} {a b : Nat} (h1 : a ≠ 20 + t) (h2 : a ≠ 26 + t) : zJob M t fp tm a b = M a b := by
  unfold zJob
  rw [zst_ap, if_neg (fun h => h1 h.1), zst_ap, if_neg (fun h => h1 h.1), zst_ap, if_neg (fun h => h1 h.1), zst_ap, if_neg (fun h => h1 h.1), zfl_ap, if_neg (fun h => h2 h.1)]
theorem zRel_out {M : Nat → Nat → Int32} {of per : Nat → Nat} {tm i a b : Nat} (hi : i ≤ 6) (h : a < 20 ∨ 32 ≤ a) : zRel M of per tm i a b = M a b := by
  induction i with
  | zero => rfl
  | succ i ih =>
    show (if sp_rel (of i) (per i) tm then zJob (zRel M of per tm i) i (M (14 + i) 4) (nI tm) else zRel M of per tm i) a b = M a b
    by_cases c : sp_rel (of i) (per i) tm
    · rw [if_pos c, zJob_out (by omega) (by omega)]; exact ih (by omega)
    · rw [if_neg c]; exact ih (by omega)
def zApp (M : Nat → Nat → Int32) (n : Nat) (p w d o : Int32) : Nat → Nat → Int32 := zst (zFor (zst (zst (zst (zst (zst M (14 + n) 0 p) (14 + n) 1 w) (14 + n) 2 d) (14 + n) 3 o) (14 + n) 4 (nI (8 * n))) n) 1 0 (nI (n + 1))

set_option maxHeartbeats 4000000 in
set_option maxRecDepth 100000 in
/-- greatestOffset() -/
theorem c_Tl_greatestOffset (l : Launch) (D : va_G) (ca : Nat → ClassId) (ad : Nat → Nat) (M : Nat → Nat → Int32) (n : Nat) (per wk dl of : Nat → Nat) (hT : tkOK M n per wk dl of) : xw_Mi l y_Tl_greatestOffset (.code y_Tl_greatestOffset b_Tl_greatestOffset 3 (some .int) :: zG) { frames := 1, cells := 0, slots := 0, locals := 21 } D zCl (zT ca) [.ref (ad 1)] (zW ca ad M) (fun _ => True) 0 0 (zW ca ad) (fun r M' => M' = M ∧ r = nI (xs_mx of n)) := by
  intro sz
  refine xw_met (cc := b_Tl_greatestOffset) (maxL := 3) (ret := (some .int)) (by decide) rfl (Nat.le_of_ble_eq_true rfl) (fun p e s m args below meth c hr hlk hnm hsz hKs C => ?_)
  have hn6 := hT.1
  have loop1 : ∀ (d : Nat) (i g : Nat), n - i = d → i ≤ n → g = xs_mx of i → XW p l e { frames := 1, cells := 0, slots := 0, locals := 21 } s m args below meth c D zCl (va_A (zW ca ad M) sz) s.heap 3 (zW ca ad M) 0 0 (MQ below (va_Qi (fun r M' => M' = M ∧ r = nI (xs_mx of n)) (xw_B D zCl (zT ca) (va_A (zW ca ad M) sz) (zW ca ad)) (va_A (zW ca ad M) sz)) args s 0 0 (va_A (zW ca ad M) sz)) 4 [(0, .ref (ad 1)), (1, .int (nI g)), (2, .int (nI i))] [] := by
    intro d
    induction d using Nat.strongRecOn with
    | _ d ih =>
      intro i g hd hi hg
      refine xw_iload_n C 2 d_Tl_greatestOffset_4 rfl rfl (pc' := 5) rfl ?_
      refine xw_aload_n C 0 d_Tl_greatestOffset_5 rfl rfl (pc' := 6) rfl ?_
      refine xw_get C u_Tl 1 zr_1 rfl 1 (by decide) k_126 rfl rfl d_Tl_greatestOffset_6 (pc' := 9) rfl ?_
      refine xw_topi (y := nI n) hT.2.1 ?_
      refine xw_icmp_ge C (tgt := 32) d_Tl_greatestOffset_9 (by decide) (pc' := 12) rfl (fun h9 => ?_) (fun h9 => ?_)
      ·
        replace h9 : n ≤ i := (nI_leI (by omega) (by omega)).mp h9
        refine xw_iload_n C 1 d_Tl_greatestOffset_32 rfl rfl (pc' := 33) rfl ?_
        refine xw_iret C hr hlk (F := zW ca ad) M rfl ?_ d_Tl_greatestOffset_33
        exact ⟨rfl, by rw [hg, show i = n by omega]⟩
      ·
        replace h9 : ¬ (n ≤ i) := fun hneg => h9 ((nI_leI (by omega) (by omega)).mpr hneg)
        refine xw_iload_n C 1 d_Tl_greatestOffset_12 rfl rfl (pc' := 13) rfl ?_
        refine xw_aload_n C 0 d_Tl_greatestOffset_13 rfl rfl (pc' := 14) rfl ?_
        refine xw_get C u_Tl 1 zr_1 rfl 0 (by decide) k_123 rfl rfl d_Tl_greatestOffset_14 (pc' := 17) rfl ?_
        refine xw_iload_n C 2 d_Tl_greatestOffset_17 rfl rfl (pc' := 18) rfl ?_
        refine xw_aald C 2 1 zr_2 rfl i rfl (by omega) (by decide) rfl d_Tl_greatestOffset_18 (pc' := 19) rfl ?_
        refine xw_get C u_Tk (14 + i) (zr_Tk (t := i) (by omega)) rfl 3 (by decide) k_100 rfl rfl d_Tl_greatestOffset_19 (pc' := 22) rfl ?_
        refine xw_topi (y := nI (of i)) (hT.2.2 _ (by omega)).2.2.2.1 ?_
        have hgi := hT.2.2 i (by omega)
        have hg48 : xs_mx of i ≤ 48 := xs_mx_le (fun j hj => by have := hT.2.2 j (by omega); omega)
        refine xw_callSi C (c_Ma_max l D ca ad M (nI g) (nI (of i))) ⟨zg_B C 2 k_400 k_39 k_402 q_Ma_max ⟨by decide, by decide⟩, C.2.2.2.2.1 _ k_401⟩ (fun _ _ _ _ h => h) (fun _ _ _ _ _ _ _ => trivial) rfl rfl (Nat.le_of_ble_eq_true rfl) d_Tl_greatestOffset_22 ⟨by decide, by decide⟩ (pc' := 25) rfl (fun r51 M52 hp53 => ?_)
        obtain ⟨hme, hre⟩ := hp53
        rw [hme, hre]
        clear hme hre
        refine xw_topi (y := nI (xs_mx of (i + 1))) (by rw [hg]; exact xs_mx_nI (by omega) (by omega)) ?_
        refine xw_istore_n C d_Tl_greatestOffset_25 rfl (by decide) rfl (pc' := 26) rfl ?_
        refine xw_iinc C 2 (v := nI (i + 1)) d_Tl_greatestOffset_26 rfl (xp_inc1 _) (by decide) rfl (pc' := 29) rfl ?_
        refine xw_goto C (tgt := 4) d_Tl_greatestOffset_29 (by decide) ?_
        refine xw_lv [2, 1, 0] rfl ?_
        exact ih (n - (i + 1)) (by omega) (i + 1) (xs_mx of (i + 1)) rfl (by omega) rfl
  refine xw_lvE (lv' := [(0, .ref (ad 1))]) rfl ?_
  refine xw_iconst C (v := nI 0) d_Tl_greatestOffset_0 (by decide) (pc' := 1) rfl ?_
  refine xw_istore_n C d_Tl_greatestOffset_1 rfl (by decide) rfl (pc' := 2) rfl ?_
  refine xw_iconst C (v := nI 0) d_Tl_greatestOffset_2 (by decide) (pc' := 3) rfl ?_
  refine xw_istore_n C d_Tl_greatestOffset_3 rfl (by decide) rfl (pc' := 4) rfl ?_
  refine xw_lv [2, 1, 0] rfl ?_
  exact loop1 n 0 0 rfl (by omega) rfl

set_option maxHeartbeats 4000000 in
set_option maxRecDepth 100000 in
/-- workInRound(h) -/
theorem c_Tl_workInRound (l : Launch) (D : va_G) (ca : Nat → ClassId) (ad : Nat → Nat) (M : Nat → Nat → Int32) (n : Nat) (per wk dl of : Nat → Nat) (h : Nat) (hT : tkOK M n per wk dl of) (hh : h < 2 ^ 31) : xw_Mi l y_Tl_workInRound (.code y_Tl_workInRound b_Tl_workInRound 4 (some .int) :: zG) { frames := 0, cells := 0, slots := 0, locals := 0 } D zCl (zT ca) [.ref (ad 1), .int (nI h)] (zW ca ad M) (fun _ => True) 0 0 (zW ca ad) (fun r M' => M' = M ∧ r = nI (xs_sm (fun t => wk t * (h / per t)) n)) := by
  intro sz
  refine xw_met (cc := b_Tl_workInRound) (maxL := 4) (ret := (some .int)) (by decide) rfl (Nat.le_of_ble_eq_true rfl) (fun p e s m args below meth c hr hlk hnm hsz hKs C => ?_)
  have hn6 := hT.1
  have loop1 : ∀ (d : Nat) (i g : Nat), n - i = d → i ≤ n → g = xs_sm (fun t => wk t * (h / per t)) i → XW p l e { frames := 0, cells := 0, slots := 0, locals := 0 } s m args below meth c D zCl (va_A (zW ca ad M) sz) s.heap 4 (zW ca ad M) 0 0 (MQ below (va_Qi (fun r M' => M' = M ∧ r = nI (xs_sm (fun t => wk t * (h / per t)) n)) (xw_B D zCl (zT ca) (va_A (zW ca ad M) sz) (zW ca ad)) (va_A (zW ca ad M) sz)) args s 0 0 (va_A (zW ca ad M) sz)) 4 [(0, .ref (ad 1)), (1, .int (nI h)), (2, .int (nI g)), (3, .int (nI i))] [] := by
    intro d
    induction d using Nat.strongRecOn with
    | _ d ih =>
      intro i g hd hi hg
      refine xw_iload_n C 3 d_Tl_workInRound_4 rfl rfl (pc' := 5) rfl ?_
      refine xw_aload_n C 0 d_Tl_workInRound_5 rfl rfl (pc' := 6) rfl ?_
      refine xw_get C u_Tl 1 zr_1 rfl 1 (by decide) k_126 rfl rfl d_Tl_workInRound_6 (pc' := 9) rfl ?_
      refine xw_topi (y := nI n) hT.2.1 ?_
      refine xw_icmp_ge C (tgt := 42) d_Tl_workInRound_9 (by decide) (pc' := 12) rfl (fun h9 => ?_) (fun h9 => ?_)
      ·
        replace h9 : n ≤ i := (nI_leI (by omega) (by omega)).mp h9
        refine xw_iload_n C 2 d_Tl_workInRound_42 rfl rfl (pc' := 43) rfl ?_
        refine xw_iret C hr hlk (F := zW ca ad) M rfl ?_ d_Tl_workInRound_43
        exact ⟨rfl, by rw [hg, show i = n by omega]⟩
      ·
        replace h9 : ¬ (n ≤ i) := fun hneg => h9 ((nI_leI (by omega) (by omega)).mpr hneg)
        refine xw_iload_n C 2 d_Tl_workInRound_12 rfl rfl (pc' := 13) rfl ?_
        refine xw_aload_n C 0 d_Tl_workInRound_13 rfl rfl (pc' := 14) rfl ?_
        refine xw_get C u_Tl 1 zr_1 rfl 0 (by decide) k_123 rfl rfl d_Tl_workInRound_14 (pc' := 17) rfl ?_
        refine xw_iload_n C 3 d_Tl_workInRound_17 rfl rfl (pc' := 18) rfl ?_
        refine xw_aald C 2 1 zr_2 rfl i rfl (by omega) (by decide) rfl d_Tl_workInRound_18 (pc' := 19) rfl ?_
        refine xw_get C u_Tk (14 + i) (zr_Tk (t := i) (by omega)) rfl 1 (by decide) k_92 rfl rfl d_Tl_workInRound_19 (pc' := 22) rfl ?_
        refine xw_topi (y := nI (wk i)) (hT.2.2 _ (by omega)).2.1 ?_
        refine xw_iload_n C 1 d_Tl_workInRound_22 rfl rfl (pc' := 23) rfl ?_
        refine xw_aload_n C 0 d_Tl_workInRound_23 rfl rfl (pc' := 24) rfl ?_
        refine xw_get C u_Tl 1 zr_1 rfl 0 (by decide) k_123 rfl rfl d_Tl_workInRound_24 (pc' := 27) rfl ?_
        refine xw_iload_n C 3 d_Tl_workInRound_27 rfl rfl (pc' := 28) rfl ?_
        refine xw_aald C 2 1 zr_2 rfl i rfl (by omega) (by decide) rfl d_Tl_workInRound_28 (pc' := 29) rfl ?_
        refine xw_get C u_Tk (14 + i) (zr_Tk (t := i) (by omega)) rfl 0 (by decide) k_91 rfl rfl d_Tl_workInRound_29 (pc' := 32) rfl ?_
        refine xw_topi (y := nI (per i)) (hT.2.2 _ (by omega)).1 ?_
        have hgi := hT.2.2 i (by omega)
        refine xw_idiv C d_Tl_workInRound_32 (nI_ne0 (by omega) (by omega)) (pc' := 33) rfl ?_
        refine xw_topi (y := nI (h / (per i))) (pk_div (by omega) (by omega) (by omega)) ?_
        have hm32 : h / (per i) ≤ h := Nat.div_le_self _ _
        refine xw_imul C d_Tl_workInRound_33 (pc' := 34) rfl ?_
        refine xw_topi (y := nI ((wk i) * (h / (per i)))) (pk_mul _ _) ?_
        refine xw_iadd C d_Tl_workInRound_34 (pc' := 35) rfl ?_
        refine xw_topi (y := nI (g + ((wk i) * (h / (per i))))) (nI_add _ _) ?_
        refine xw_istore_n C d_Tl_workInRound_35 rfl (by decide) rfl (pc' := 36) rfl ?_
        refine xw_iinc C 3 (v := nI (i + 1)) d_Tl_workInRound_36 rfl (xp_inc1 _) (by decide) rfl (pc' := 39) rfl ?_
        refine xw_goto C (tgt := 4) d_Tl_workInRound_39 (by decide) ?_
        refine xw_lv [2, 3, 1, 0] rfl ?_
        exact ih (n - (i + 1)) (by omega) (i + 1) ((g + ((wk i) * (h / (per i))))) rfl (by omega) (by rw [hg]; rfl)
  refine xw_lvE (lv' := [(0, .ref (ad 1)), (1, .int (nI h))]) rfl ?_
  refine xw_iconst C (v := nI 0) d_Tl_workInRound_0 (by decide) (pc' := 1) rfl ?_
  refine xw_istore_n C d_Tl_workInRound_1 rfl (by decide) rfl (pc' := 2) rfl ?_
  refine xw_iconst C (v := nI 0) d_Tl_workInRound_2 (by decide) (pc' := 3) rfl ?_
  refine xw_istore_n C d_Tl_workInRound_3 rfl (by decide) rfl (pc' := 4) rfl ?_
  refine xw_lv [2, 3, 1, 0] rfl ?_
  exact loop1 n 0 0 rfl (by omega) rfl

set_option maxHeartbeats 4000000 in
set_option maxRecDepth 100000 in
/-- areServed -/
theorem c_Tl_areServed (l : Launch) (D : va_G) (ca : Nat → ClassId) (ad : Nat → Nat) (M : Nat → Nat → Int32) (n : Nat) (per wk dl of : Nat → Nat) (h : Nat) (hT : tkOK M n per wk dl of) (hh1 : 1 ≤ h) (hh : h ≤ 240) : xw_Mi l y_Tl_areServed (.code y_Tl_areServed b_Tl_areServed 4 (some .boolean) :: zG) { frames := 2, cells := 0, slots := 0, locals := 51 } D zCl (zT ca) [.ref (ad 1), .ref (ad 13), .int (nI h)] (zW ca ad M) (fun _ => True) 0 0 (zW ca ad) (fun r M' => M' = M ∧ ((∀ t, t < n → sp_srv (M 13) t h (per t) (wk t) (dl t) (of t)) ∧ r = nI 1 ∨ ¬ (∀ t, t < n → sp_srv (M 13) t h (per t) (wk t) (dl t) (of t)) ∧ r = nI 0)) := by
  intro sz
  refine xw_met (cc := b_Tl_areServed) (maxL := 4) (ret := (some .boolean)) (by decide) rfl (Nat.le_of_ble_eq_true rfl) (fun p e s m args below meth c hr hlk hnm hsz hKs C => ?_)
  have hn6 := hT.1
  have loop1 : ∀ (d : Nat) (i : Nat), n - i = d → i ≤ n → (∀ t, t < i → sp_srv (M 13) t h (per t) (wk t) (dl t) (of t)) → XW p l e { frames := 2, cells := 0, slots := 0, locals := 51 } s m args below meth c D zCl (va_A (zW ca ad M) sz) s.heap 4 (zW ca ad M) 0 0 (MQ below (va_Qi (fun r M' => M' = M ∧ ((∀ t, t < n → sp_srv (M 13) t h (per t) (wk t) (dl t) (of t)) ∧ r = nI 1 ∨ ¬ (∀ t, t < n → sp_srv (M 13) t h (per t) (wk t) (dl t) (of t)) ∧ r = nI 0)) (xw_B D zCl (zT ca) (va_A (zW ca ad M) sz) (zW ca ad)) (va_A (zW ca ad M) sz)) args s 0 0 (va_A (zW ca ad M) sz)) 2 [(0, .ref (ad 1)), (1, .ref (ad 13)), (2, .int (nI h)), (3, .int (nI i))] [] := by
    intro d
    induction d using Nat.strongRecOn with
    | _ d ih =>
      intro i hd hi hall
      refine xw_iload_n C 3 d_Tl_areServed_2 rfl rfl (pc' := 3) rfl ?_
      refine xw_aload_n C 0 d_Tl_areServed_3 rfl rfl (pc' := 4) rfl ?_
      refine xw_get C u_Tl 1 zr_1 rfl 1 (by decide) k_126 rfl rfl d_Tl_areServed_4 (pc' := 7) rfl ?_
      refine xw_topi (y := nI n) hT.2.1 ?_
      refine xw_icmp_ge C (tgt := 33) d_Tl_areServed_7 (by decide) (pc' := 10) rfl (fun h7 => ?_) (fun h7 => ?_)
      ·
        replace h7 : n ≤ i := (nI_leI (by omega) (by omega)).mp h7
        refine xw_iconst C (v := nI 1) d_Tl_areServed_33 (by decide) (pc' := 34) rfl ?_
        refine xw_zret C hr hlk xp_n1 (F := zW ca ad) M rfl ?_ d_Tl_areServed_34
        exact ⟨rfl, Or.inl ⟨fun t ht => hall t (by omega), rfl⟩⟩
      ·
        replace h7 : ¬ (n ≤ i) := fun hneg => h7 ((nI_leI (by omega) (by omega)).mpr hneg)
        refine xw_aload_n C 0 d_Tl_areServed_10 rfl rfl (pc' := 11) rfl ?_
        refine xw_get C u_Tl 1 zr_1 rfl 0 (by decide) k_123 rfl rfl d_Tl_areServed_11 (pc' := 14) rfl ?_
        refine xw_iload_n C 3 d_Tl_areServed_14 rfl rfl (pc' := 15) rfl ?_
        refine xw_aald C 2 1 zr_2 rfl i rfl (by omega) (by decide) rfl d_Tl_areServed_15 (pc' := 16) rfl ?_
        refine xw_iload_n C 3 d_Tl_areServed_16 rfl rfl (pc' := 17) rfl ?_
        refine xw_aload_n C 1 d_Tl_areServed_17 rfl rfl (pc' := 18) rfl ?_
        refine xw_iload_n C 2 d_Tl_areServed_18 rfl rfl (pc' := 19) rfl ?_
        refine xw_callVi C (c_Tk_isServed l D ca ad M i h (per i) (wk i) (dl i) (of i) (by omega) (by omega) (by omega) (hT.2.2 i (by omega)).1 (hT.2.2 i (by omega)).2.1 (hT.2.2 i (by omega)).2.2.1 (hT.2.2 i (by omega)).2.2.2.1 (by have := hT.2.2 i (by omega); omega)) ⟨zg_B C 3 k_474 k_26 k_477 q_Tk_isServed ⟨by decide, by decide⟩, C.2.2.2.2.1 _ k_475, C.2.2.2.2.1 _ k_476⟩ (14 + i) (zr_Tk (t := i) (by omega)) rfl rfl (fun _ _ _ _ h => h) (fun _ _ _ _ _ _ _ => trivial) rfl rfl (Nat.le_of_ble_eq_true rfl) d_Tl_areServed_19 ⟨by decide, by decide⟩ (pc' := 22) rfl (fun r51 M52 hp53 => ?_)
        obtain ⟨hme, hp53⟩ := hp53
        rw [hme]
        clear hme
        rcases hp53 with ⟨hsv, rfl⟩ | ⟨hsv, rfl⟩
        ·
          refine xw_if_ne C (tgt := 27) d_Tl_areServed_22 (by decide) (pc' := 25) rfl (fun h22 => ?_) (fun h22 => ?_)
          ·
            replace h22 : ¬ (1 = 0) := fun hneg => h22 ((xp_eq0 (by omega)).mpr hneg)
            refine xw_iinc C 3 (v := nI (i + 1)) d_Tl_areServed_27 rfl (xp_inc1 _) (by decide) rfl (pc' := 30) rfl ?_
            refine xw_goto C (tgt := 2) d_Tl_areServed_30 (by decide) ?_
            refine xw_lv [1, 2, 3, 0] rfl ?_
            exact ih (n - (i + 1)) (by omega) (i + 1) rfl (by omega) (fun t ht => by
              rcases Nat.lt_or_ge t i with c9 | c9
              · exact hall t c9
              · rw [show t = i by omega]; exact hsv)
          ·
            replace h22 : 1 = 0 := (xp_eq0 (by omega)).mp h22
            omega
        ·
          refine xw_if_ne C (tgt := 27) d_Tl_areServed_22 (by decide) (pc' := 25) rfl (fun h22 => ?_) (fun h22 => ?_)
          ·
            replace h22 : ¬ (0 = 0) := fun hneg => h22 ((xp_eq0 (by omega)).mpr hneg)
            omega
          ·
            replace h22 : 0 = 0 := (xp_eq0 (by omega)).mp h22
            refine xw_iconst C (v := nI 0) d_Tl_areServed_25 (by decide) (pc' := 26) rfl ?_
            refine xw_zret C hr hlk xp_n0 (F := zW ca ad) M rfl ?_ d_Tl_areServed_26
            exact ⟨rfl, Or.inr ⟨fun h9 => hsv (h9 i (by omega)), rfl⟩⟩
  refine xw_lvE (lv' := [(0, .ref (ad 1)), (1, .ref (ad 13)), (2, .int (nI h))]) rfl ?_
  refine xw_iconst C (v := nI 0) d_Tl_areServed_0 (by decide) (pc' := 1) rfl ?_
  refine xw_istore_n C d_Tl_areServed_1 rfl (by decide) rfl (pc' := 2) rfl ?_
  refine xw_lv [1, 2, 3, 0] rfl ?_
  exact loop1 n 0 rfl (by omega) (fun t ht => by omega)

set_option maxHeartbeats 4000000 in
set_option maxRecDepth 100000 in
/-- releaseJobs(tm) -/
theorem c_Tl_releaseJobs (l : Launch) (D : va_G) (ca : Nat → ClassId) (ad : Nat → Nat) (M : Nat → Nat → Int32) (n : Nat) (per wk dl of : Nat → Nat) (tm : Nat) (hT : tkOK M n per wk dl of) (htm : tm < 2 ^ 31) : xw_Mv l y_Tl_releaseJobs (.code y_Tl_releaseJobs b_Tl_releaseJobs 3 none :: zG) { frames := 2, cells := 0, slots := 0, locals := 45 } D zCl (zT ca) [.ref (ad 1), .int (nI tm)] (zW ca ad M) (fun _ => True) 0 0 (zW ca ad) (fun M' => M' = zRel M of per tm n) := by
  intro sz
  refine xw_met (cc := b_Tl_releaseJobs) (maxL := 3) (ret := none) (by decide) rfl (Nat.le_of_ble_eq_true rfl) (fun p e s m args below meth c hr hlk hnm hsz hKs C => ?_)
  have hn6 := hT.1
  have loop1 : ∀ (d : Nat) (i : Nat) (M1 : Nat → Nat → Int32), n - i = d → i ≤ n → M1 = zRel M of per tm i → XW p l e { frames := 2, cells := 0, slots := 0, locals := 45 } s m args below meth c D zCl (va_A (zW ca ad M) sz) s.heap 3 (zW ca ad M1) 0 0 (MQ below (va_Qv (fun M' => M' = zRel M of per tm n) (xw_B D zCl (zT ca) (va_A (zW ca ad M) sz) (zW ca ad)) (va_A (zW ca ad M) sz)) args s 0 0 (va_A (zW ca ad M) sz)) 2 [(0, .ref (ad 1)), (1, .int (nI tm)), (2, .int (nI i))] [] := by
    intro d
    induction d using Nat.strongRecOn with
    | _ d ih =>
      intro i M1 hd hi hM1
      have hk1 : ∀ a b, (a < 20 ∨ 32 ≤ a) → M1 a b = M a b := fun a b h => by rw [hM1]; exact zRel_out (by omega) h
      have hT1 : tkOK M1 n per wk dl of := hT.keep (hk1 _ _ (by omega)) (fun t j ht => hk1 _ _ (by omega))
      refine xw_iload_n C 2 d_Tl_releaseJobs_2 rfl rfl (pc' := 3) rfl ?_
      refine xw_aload_n C 0 d_Tl_releaseJobs_3 rfl rfl (pc' := 4) rfl ?_
      refine xw_get C u_Tl 1 zr_1 rfl 1 (by decide) k_126 rfl rfl d_Tl_releaseJobs_4 (pc' := 7) rfl ?_
      refine xw_topi (y := nI n) ((hk1 _ _ (by omega)).trans hT.2.1) ?_
      refine xw_icmp_ge C (tgt := 51) d_Tl_releaseJobs_7 (by decide) (pc' := 10) rfl (fun h7 => ?_) (fun h7 => ?_)
      ·
        replace h7 : n ≤ i := (nI_leI (by omega) (by omega)).mp h7
        refine xw_vret C hr hlk (F := zW ca ad) M1 rfl ?_ d_Tl_releaseJobs_51
        rw [hM1, show i = n by omega]
      ·
        replace h7 : ¬ (n ≤ i) := fun hneg => h7 ((nI_leI (by omega) (by omega)).mpr hneg)
        refine xw_aload_n C 0 d_Tl_releaseJobs_10 rfl rfl (pc' := 11) rfl ?_
        refine xw_get C u_Tl 1 zr_1 rfl 0 (by decide) k_123 rfl rfl d_Tl_releaseJobs_11 (pc' := 14) rfl ?_
        refine xw_iload_n C 2 d_Tl_releaseJobs_14 rfl rfl (pc' := 15) rfl ?_
        refine xw_aald C 2 1 zr_2 rfl i rfl (by omega) (by decide) rfl d_Tl_releaseJobs_15 (pc' := 16) rfl ?_
        refine xw_iload_n C 1 d_Tl_releaseJobs_16 rfl rfl (pc' := 17) rfl ?_
        refine xw_callVi C (c_Tk_releasesAt l D ca ad M1 i tm (of i) (per i) (by omega) (by omega) (hT1.2.2 _ (by omega)).2.2.2.1 (by have := hT.2.2 i (by omega); omega) (hT1.2.2 _ (by omega)).1 (by have := hT.2.2 i (by omega); omega) (by have := hT.2.2 i (by omega); omega)) ⟨zg_B C 1 k_514 k_26 k_410 q_Tk_releasesAt ⟨by decide, by decide⟩, C.2.2.2.2.1 _ k_408, C.2.2.2.2.1 _ k_409⟩ (14 + i) (zr_Tk (t := i) (by omega)) rfl rfl (fun _ _ _ _ h => h) (fun _ _ _ _ _ _ _ => trivial) rfl rfl (Nat.le_of_ble_eq_true rfl) d_Tl_releaseJobs_17 ⟨by decide, by decide⟩ (pc' := 20) rfl (fun r51 M52 hp53 => ?_)
        obtain ⟨hme, hp53⟩ := hp53
        rw [hme]
        clear hme
        rcases hp53 with ⟨hrl, rfl⟩ | ⟨hrl, rfl⟩
        ·
          refine xw_if_eq C (tgt := 45) d_Tl_releaseJobs_20 (by decide) (pc' := 23) rfl (fun h20 => ?_) (fun h20 => ?_)
          ·
            replace h20 : 1 = 0 := (xp_eq0 (by omega)).mp h20
            omega
          ·
            replace h20 : ¬ (1 = 0) := fun hneg => h20 ((xp_eq0 (by omega)).mpr hneg)
            refine xw_aload_n C 0 d_Tl_releaseJobs_23 rfl rfl (pc' := 24) rfl ?_
            refine xw_get C u_Tl 1 zr_1 rfl 0 (by decide) k_123 rfl rfl d_Tl_releaseJobs_24 (pc' := 27) rfl ?_
            refine xw_iload_n C 2 d_Tl_releaseJobs_27 rfl rfl (pc' := 28) rfl ?_
            refine xw_aald C 2 1 zr_2 rfl i rfl (by omega) (by decide) rfl d_Tl_releaseJobs_28 (pc' := 29) rfl ?_
            refine xw_get C u_Tk (14 + i) (zr_Tk (t := i) (by omega)) rfl 5 (by decide) k_104 rfl rfl d_Tl_releaseJobs_29 (pc' := 32) rfl ?_
            refine xw_aload_n C 0 d_Tl_releaseJobs_32 rfl rfl (pc' := 33) rfl ?_
            refine xw_get C u_Tl 1 zr_1 rfl 0 (by decide) k_123 rfl rfl d_Tl_releaseJobs_33 (pc' := 36) rfl ?_
            refine xw_iload_n C 2 d_Tl_releaseJobs_36 rfl rfl (pc' := 37) rfl ?_
            refine xw_aald C 2 1 zr_2 rfl i rfl (by omega) (by decide) rfl d_Tl_releaseJobs_37 (pc' := 38) rfl ?_
            refine xw_get C u_Tk (14 + i) (zr_Tk (t := i) (by omega)) rfl 4 (by decide) k_101 rfl rfl d_Tl_releaseJobs_38 (pc' := 41) rfl ?_
            refine xw_topi (y := M (14 + i) 4) (hk1 _ _ (by omega)) ?_
            refine xw_iload_n C 1 d_Tl_releaseJobs_41 rfl rfl (pc' := 42) rfl ?_
            refine xw_callVv C (c_Jb_start l D ca ad M1 i (M (14 + i) 4) (nI tm) (by omega)) ⟨zg_B C 2 k_515 k_27 k_518 q_Jb_start ⟨by decide, by decide⟩, C.2.2.2.2.1 _ k_516, C.2.2.2.2.1 _ k_517⟩ (20 + i) (zr_Jb (t := i) (by omega)) rfl rfl (fun _ _ _ _ h => h) (fun _ _ _ _ _ _ _ => trivial) rfl rfl (Nat.le_of_ble_eq_true rfl) d_Tl_releaseJobs_42 ⟨by decide, by decide⟩ (pc' := 45) rfl (fun M55 hp56 => ?_)
            have hM55 := hp56
            refine xw_iinc C 2 (v := nI (i + 1)) d_Tl_releaseJobs_45 rfl (xp_inc1 _) (by decide) rfl (pc' := 48) rfl ?_
            refine xw_goto C (tgt := 2) d_Tl_releaseJobs_48 (by decide) ?_
            refine xw_lv [1, 2, 0] rfl ?_
            exact ih (n - (i + 1)) (by omega) (i + 1) M55 rfl (by omega) (by rw [hM55, hM1]; exact (if_pos hrl).symm)
        ·
          refine xw_if_eq C (tgt := 45) d_Tl_releaseJobs_20 (by decide) (pc' := 23) rfl (fun h20 => ?_) (fun h20 => ?_)
          ·
            replace h20 : 0 = 0 := (xp_eq0 (by omega)).mp h20
            refine xw_iinc C 2 (v := nI (i + 1)) d_Tl_releaseJobs_45 rfl (xp_inc1 _) (by decide) rfl (pc' := 48) rfl ?_
            refine xw_goto C (tgt := 2) d_Tl_releaseJobs_48 (by decide) ?_
            refine xw_lv [1, 2, 0] rfl ?_
            exact ih (n - (i + 1)) (by omega) (i + 1) M1 rfl (by omega) (by rw [hM1]; exact (if_neg hrl).symm)
          ·
            replace h20 : ¬ (0 = 0) := fun hneg => h20 ((xp_eq0 (by omega)).mpr hneg)
            omega
  refine xw_lvE (lv' := [(0, .ref (ad 1)), (1, .int (nI tm))]) rfl ?_
  refine xw_iconst C (v := nI 0) d_Tl_releaseJobs_0 (by decide) (pc' := 1) rfl ?_
  refine xw_istore_n C d_Tl_releaseJobs_1 rfl (by decide) rfl (pc' := 2) rfl ?_
  refine xw_lv [1, 2, 0] rfl ?_
  exact loop1 n 0 M rfl (by omega) rfl

set_option maxHeartbeats 4000000 in
set_option maxRecDepth 100000 in
/-- append -/
theorem c_Tl_append (l : Launch) (D : va_G) (ca : Nat → ClassId) (ad : Nat → Nat) (M : Nat → Nat → Int32) (n : Nat) (p0 w0 d0 o0 : Int32) (hn : n < 6) (hz : M 1 0 = nI n) : xw_Mi l y_Tl_append (.code y_Tl_append b_Tl_append 6 (some .int) :: zG) { frames := 2, cells := 0, slots := 0, locals := 43 } D zCl (zT ca) [.ref (ad 1), .int p0, .int w0, .int d0, .int o0] (zW ca ad M) (fun _ => True) 0 0 (zW ca ad) (fun r M' => M' = zApp M n p0 w0 d0 o0 ∧ r = nI n) := by
  intro sz
  refine xw_met (cc := b_Tl_append) (maxL := 6) (ret := (some .int)) (by decide) rfl (Nat.le_of_ble_eq_true rfl) (fun p e s m args below meth c hr hlk hnm hsz hKs C => ?_)
  refine xw_lvE (lv' := [(0, .ref (ad 1)), (1, .int p0), (2, .int w0), (3, .int d0), (4, .int o0)]) rfl ?_
  refine xw_aload_n C 0 d_Tl_append_0 rfl rfl (pc' := 1) rfl ?_
  refine xw_get C u_Tl 1 zr_1 rfl 0 (by decide) k_123 rfl rfl d_Tl_append_1 (pc' := 4) rfl ?_
  refine xw_aload_n C 0 d_Tl_append_4 rfl rfl (pc' := 5) rfl ?_
  refine xw_get C u_Tl 1 zr_1 rfl 1 (by decide) k_126 rfl rfl d_Tl_append_5 (pc' := 8) rfl ?_
  refine xw_topi (y := nI n) hz ?_
  refine xw_aald C 2 1 zr_2 rfl n rfl (by omega) (by decide) rfl d_Tl_append_8 (pc' := 9) rfl ?_
  refine xw_astore C d_Tl_append_9 (by decide) rfl (pc' := 11) rfl ?_
  refine xw_aload C 0 d_Tl_append_11 rfl (pc' := 13) rfl ?_
  refine xw_iload_n C 2 d_Tl_append_13 rfl rfl (pc' := 14) rfl ?_
  obtain ⟨M1, hM1⟩ : ∃ z, z = zst M (14 + n) 0 p0 := ⟨_, rfl⟩
  refine xw_put C u_Tk t_Tk t_Tk_ok n_Tk (14 + n) (zr_Tk (t := n) (by omega)) rfl 0 (by decide) k_91 rfl rfl (t_Tk_ok 0 (by decide)) rfl rfl (Nat.le_of_ble_eq_true rfl) (ws' := zW ca ad M1) (by rw [hM1]; exact zs_Tk_0 (t := n) (by omega) _) d_Tl_append_14 (pc' := 17) rfl ?_
  refine xw_aload C 0 d_Tl_append_17 rfl (pc' := 19) rfl ?_
  refine xw_iload_n C 3 d_Tl_append_19 rfl rfl (pc' := 20) rfl ?_
  obtain ⟨M2, hM2⟩ : ∃ z, z = zst M1 (14 + n) 1 w0 := ⟨_, rfl⟩
  refine xw_put C u_Tk t_Tk t_Tk_ok n_Tk (14 + n) (zr_Tk (t := n) (by omega)) rfl 1 (by decide) k_92 rfl rfl (t_Tk_ok 1 (by decide)) rfl rfl (Nat.le_of_ble_eq_true rfl) (ws' := zW ca ad M2) (by rw [hM2]; exact zs_Tk_1 (t := n) (by omega) _) d_Tl_append_20 (pc' := 23) rfl ?_
  refine xw_aload C 0 d_Tl_append_23 rfl (pc' := 25) rfl ?_
  refine xw_iload_n C 4 d_Tl_append_25 rfl rfl (pc' := 26) rfl ?_
  obtain ⟨M3, hM3⟩ : ∃ z, z = zst M2 (14 + n) 2 d0 := ⟨_, rfl⟩
  refine xw_put C u_Tk t_Tk t_Tk_ok n_Tk (14 + n) (zr_Tk (t := n) (by omega)) rfl 2 (by decide) k_96 rfl rfl (t_Tk_ok 2 (by decide)) rfl rfl (Nat.le_of_ble_eq_true rfl) (ws' := zW ca ad M3) (by rw [hM3]; exact zs_Tk_2 (t := n) (by omega) _) d_Tl_append_26 (pc' := 29) rfl ?_
  refine xw_aload C 0 d_Tl_append_29 rfl (pc' := 31) rfl ?_
  refine xw_iload C 5 d_Tl_append_31 rfl (pc' := 33) rfl ?_
  obtain ⟨M4, hM4⟩ : ∃ z, z = zst M3 (14 + n) 3 o0 := ⟨_, rfl⟩
  refine xw_put C u_Tk t_Tk t_Tk_ok n_Tk (14 + n) (zr_Tk (t := n) (by omega)) rfl 3 (by decide) k_100 rfl rfl (t_Tk_ok 3 (by decide)) rfl rfl (Nat.le_of_ble_eq_true rfl) (ws' := zW ca ad M4) (by rw [hM4]; exact zs_Tk_3 (t := n) (by omega) _) d_Tl_append_33 (pc' := 36) rfl ?_
  refine xw_aload C 0 d_Tl_append_36 rfl (pc' := 38) rfl ?_
  refine xw_bipush C (v := nI 8) d_Tl_append_38 (by decide) (pc' := 40) rfl ?_
  refine xw_aload_n C 1 d_Tl_append_40 rfl rfl (pc' := 41) rfl ?_
  have hz4 : M4 1 0 = nI n := by rw [hM4, hM3, hM2, hM1, zst_ap, if_neg (by omega), zst_ap, if_neg (by omega), zst_ap, if_neg (by omega), zst_ap, if_neg (by omega)]; exact hz
  refine xw_get C u_Tl 1 zr_1 rfl 1 (by decide) k_126 rfl rfl d_Tl_append_41 (pc' := 44) rfl ?_
  refine xw_topi (y := nI n) hz4 ?_
  refine xw_imul C d_Tl_append_44 (pc' := 45) rfl ?_
  refine xw_topi (y := nI (8 * n)) (pk_mul _ _) ?_
  obtain ⟨M5, hM5⟩ : ∃ z, z = zst M4 (14 + n) 4 (nI (8 * n)) := ⟨_, rfl⟩
  refine xw_put C u_Tk t_Tk t_Tk_ok n_Tk (14 + n) (zr_Tk (t := n) (by omega)) rfl 4 (by decide) k_101 rfl rfl (t_Tk_ok 4 (by decide)) rfl rfl (Nat.le_of_ble_eq_true rfl) (ws' := zW ca ad M5) (by rw [hM5]; exact zs_Tk_4 (t := n) (by omega) _) d_Tl_append_45 (pc' := 48) rfl ?_
  refine xw_aload C 0 d_Tl_append_48 rfl (pc' := 50) rfl ?_
  refine xw_callVv C (c_Tk_forgetRun l D ca ad M5 n (by omega)) ⟨zg_B C 0 k_359 k_26 k_362 q_Tk_forgetRun ⟨by decide, by decide⟩, C.2.2.2.2.1 _ k_360, C.2.2.2.2.1 _ k_361⟩ (14 + n) (zr_Tk (t := n) (by omega)) rfl rfl (fun _ _ _ _ h => h) (fun _ _ _ _ _ _ _ => trivial) rfl rfl (Nat.le_of_ble_eq_true rfl) d_Tl_append_50 ⟨by decide, by decide⟩ (pc' := 53) rfl (fun M7 hp8 => ?_)
  have hM7 := hp8
  refine xw_aload_n C 1 d_Tl_append_53 rfl rfl (pc' := 54) rfl ?_
  have hz6 : M7 1 0 = nI n := by rw [hM7, hM5]; unfold zFor; rw [zfl_ap, if_neg (by omega), zst_ap, if_neg (by omega), zst_ap, if_neg (by omega)]; exact hz4
  refine xw_dup C d_Tl_append_54 rfl (pc' := 55) rfl ?_
  refine xw_get C u_Tl 1 zr_1 rfl 1 (by decide) k_126 rfl rfl d_Tl_append_55 (pc' := 58) rfl ?_
  refine xw_topi (y := nI n) hz6 ?_
  refine xw_iconst C (v := nI 1) d_Tl_append_58 (by decide) (pc' := 59) rfl ?_
  refine xw_iadd C d_Tl_append_59 (pc' := 60) rfl ?_
  refine xw_topi (y := nI (n + 1)) (nI_add _ _) ?_
  obtain ⟨M9, hM9⟩ : ∃ z, z = zst M7 1 0 (nI (n + 1)) := ⟨_, rfl⟩
  refine xw_put C u_Tl t_Tl t_Tl_ok n_Tl 1 zr_1 rfl 1 (by decide) k_126 rfl rfl (t_Tl_ok 1 (by decide)) rfl rfl (Nat.le_of_ble_eq_true rfl) (ws' := zW ca ad M9) (by rw [hM9]; exact zs_1_0 _) d_Tl_append_60 (pc' := 63) rfl ?_
  refine xw_aload_n C 1 d_Tl_append_63 rfl rfl (pc' := 64) rfl ?_
  have hz9 : M9 1 0 = nI (n + 1) := by rw [hM9, zst_ap, if_pos ⟨rfl, rfl⟩]
  refine xw_get C u_Tl 1 zr_1 rfl 1 (by decide) k_126 rfl rfl d_Tl_append_64 (pc' := 67) rfl ?_
  refine xw_topi (y := nI (n + 1)) hz9 ?_
  refine xw_iconst C (v := nI 1) d_Tl_append_67 (by decide) (pc' := 68) rfl ?_
  refine xw_isub C d_Tl_append_68 (pc' := 69) rfl ?_
  refine xw_topi (y := nI ((n + 1) - 1)) (pk_sub (by omega)) ?_
  refine xw_iret C hr hlk (F := zW ca ad) M9 rfl ?_ d_Tl_append_69
  refine ⟨?_, rfl⟩
  rw [hM9, hM7, hM5, hM4, hM3, hM2, hM1]; rfl
