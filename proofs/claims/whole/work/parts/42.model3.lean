set_option maxHeartbeats 4000000 in
set_option maxRecDepth 100000 in
/-- greatestOffset -/
theorem c_Md_greatestOffset (l : Launch) (D : va_G) (ca : Nat → ClassId) (ad : Nat → Nat) (M : Nat → Nat → Int32) (n : Nat) (per wk dl of : Nat → Nat) (hT : tmOK M n per wk dl of) : xw_Mi l y_Md_greatestOffset (.code y_Md_greatestOffset b_Md_greatestOffset 3 (some .int) :: zG) { frames := 0, cells := 0, slots := 0, locals := 0 } D zCl (zT ca) [.ref (ad 38)] (zW ca ad M) (fun _ => True) 0 0 (zW ca ad) (fun r M' => M' = M ∧ r = nI (xs_mx of n)) := by
  intro sz
  refine xw_met (cc := b_Md_greatestOffset) (maxL := 3) (ret := (some .int)) (by decide) rfl (Nat.le_of_ble_eq_true rfl) (fun p e s m args below meth c hr hlk hnm hsz hKs C => ?_)
  have hn6 := hT.1
  have loop1 : ∀ (d : Nat) (i g : Nat), n - i = d → i ≤ n → g = xs_mx of i → XW p l e { frames := 0, cells := 0, slots := 0, locals := 0 } s m args below meth c D zCl (va_A (zW ca ad M) sz) s.heap 3 (zW ca ad M) 0 0 (MQ below (va_Qi (fun r M' => M' = M ∧ r = nI (xs_mx of n)) (xw_B D zCl (zT ca) (va_A (zW ca ad M) sz) (zW ca ad)) (va_A (zW ca ad M) sz)) args s 0 0 (va_A (zW ca ad M) sz)) 4 [(0, .ref (ad 38)), (1, .int (nI g)), (2, .int (nI i))] [] := by
    intro d
    induction d using Nat.strongRecOn with
    | _ d ih =>
      intro i g hd hi hg
      refine xw_iload_n C 2 d_Md_greatestOffset_4 rfl rfl (pc' := 5) rfl ?_
      refine xw_aload_n C 0 d_Md_greatestOffset_5 rfl rfl (pc' := 6) rfl ?_
      refine xw_get C u_Md 38 zr_38 rfl 2 (by decide) k_572 rfl rfl d_Md_greatestOffset_6 (pc' := 9) rfl ?_
      refine xw_topi (y := nI n) hT.2.1 ?_
      refine xw_icmp_ge C (tgt := 39) d_Md_greatestOffset_9 (by decide) (pc' := 12) rfl (fun h9 => ?_) (fun h9 => ?_)
      ·
        replace h9 : n ≤ i := (nI_leI (by omega) (by omega)).mp h9
        refine xw_iload_n C 1 d_Md_greatestOffset_39 rfl rfl (pc' := 40) rfl ?_
        refine xw_iret C hr hlk (F := zW ca ad) M rfl ?_ d_Md_greatestOffset_40
        exact ⟨rfl, by rw [hg, show i = n by omega]⟩
      ·
        replace h9 : ¬ (n ≤ i) := fun hneg => h9 ((nI_leI (by omega) (by omega)).mpr hneg)
        refine xw_aload_n C 0 d_Md_greatestOffset_12 rfl rfl (pc' := 13) rfl ?_
        refine xw_get C u_Md 38 zr_38 rfl 6 (by decide) k_576 rfl rfl d_Md_greatestOffset_13 (pc' := 16) rfl ?_
        refine xw_iload_n C 2 d_Md_greatestOffset_16 rfl rfl (pc' := 17) rfl ?_
        refine xw_iald C 42 0 zr_42 rfl i rfl (by omega) (by decide) d_Md_greatestOffset_17 (pc' := 18) rfl ?_
        refine xw_topi (y := nI (of i)) (hT.2.2 _ (by omega)).2.2.2.1 ?_
        refine xw_iload_n C 1 d_Md_greatestOffset_18 rfl rfl (pc' := 19) rfl ?_
        have hgi := hT.2.2 i (by omega)
        have hg48 : xs_mx of i ≤ 48 := xs_mx_le (fun j hj => by have := hT.2.2 j (by omega); omega)
        refine xw_icmp_le C (tgt := 31) d_Md_greatestOffset_19 (by decide) (pc' := 22) rfl (fun h19 => ?_) (fun h19 => ?_)
        ·
          replace h19 : (of i) ≤ g := (nI_leI (by omega) (by omega)).mp h19
          refine xw_iload_n C 1 d_Md_greatestOffset_31 rfl rfl (pc' := 32) rfl ?_
          refine xw_istore_n C d_Md_greatestOffset_32 rfl (by decide) rfl (pc' := 33) rfl ?_
          refine xw_iinc C 2 (v := nI (i + 1)) d_Md_greatestOffset_33 rfl (xp_inc1 _) (by decide) rfl (pc' := 36) rfl ?_
          refine xw_goto C (tgt := 4) d_Md_greatestOffset_36 (by decide) ?_
          refine xw_lv [2, 1, 0] rfl ?_
          exact ih (n - (i + 1)) (by omega) (i + 1) g rfl (by omega) (by rw [hg]; exact (if_neg (by omega)).symm)
        ·
          replace h19 : ¬ ((of i) ≤ g) := fun hneg => h19 ((nI_leI (by omega) (by omega)).mpr hneg)
          refine xw_aload_n C 0 d_Md_greatestOffset_22 rfl rfl (pc' := 23) rfl ?_
          refine xw_get C u_Md 38 zr_38 rfl 6 (by decide) k_576 rfl rfl d_Md_greatestOffset_23 (pc' := 26) rfl ?_
          refine xw_iload_n C 2 d_Md_greatestOffset_26 rfl rfl (pc' := 27) rfl ?_
          refine xw_iald C 42 0 zr_42 rfl i rfl (by omega) (by decide) d_Md_greatestOffset_27 (pc' := 28) rfl ?_
          refine xw_topi (y := nI (of i)) (hT.2.2 _ (by omega)).2.2.2.1 ?_
          refine xw_goto C (tgt := 32) d_Md_greatestOffset_28 (by decide) ?_
          refine xw_istore_n C d_Md_greatestOffset_32 rfl (by decide) rfl (pc' := 33) rfl ?_
          refine xw_iinc C 2 (v := nI (i + 1)) d_Md_greatestOffset_33 rfl (xp_inc1 _) (by decide) rfl (pc' := 36) rfl ?_
          refine xw_goto C (tgt := 4) d_Md_greatestOffset_36 (by decide) ?_
          refine xw_lv [2, 1, 0] rfl ?_
          exact ih (n - (i + 1)) (by omega) (i + 1) (of i) rfl (by omega) ((if_pos (by omega)).symm)
  refine xw_lvE (lv' := [(0, .ref (ad 38))]) rfl ?_
  refine xw_iconst C (v := nI 0) d_Md_greatestOffset_0 (by decide) (pc' := 1) rfl ?_
  refine xw_istore_n C d_Md_greatestOffset_1 rfl (by decide) rfl (pc' := 2) rfl ?_
  refine xw_iconst C (v := nI 0) d_Md_greatestOffset_2 (by decide) (pc' := 3) rfl ?_
  refine xw_istore_n C d_Md_greatestOffset_3 rfl (by decide) rfl (pc' := 4) rfl ?_
  refine xw_lv [2, 1, 0] rfl ?_
  exact loop1 n 0 0 rfl (by omega) rfl

set_option maxHeartbeats 4000000 in
set_option maxRecDepth 100000 in
/-- isReleased -/
theorem c_Md_isReleased (l : Launch) (D : va_G) (ca : Nat → ClassId) (ad : Nat → Nat) (M : Nat → Nat → Int32) (n : Nat) (per wk dl of : Nat → Nat) (t u : Nat) (hT : tmOK M n per wk dl of) (ht : t < n) (hu : u < 2 ^ 31) : xw_Mi l y_Md_isReleased (.code y_Md_isReleased b_Md_isReleased 3 (some .boolean) :: zG) { frames := 0, cells := 0, slots := 0, locals := 0 } D zCl (zT ca) [.ref (ad 38), .int (nI t), .int (nI u)] (zW ca ad M) (fun _ => True) 0 0 (zW ca ad) (fun r M' => M' = M ∧ (sp_rel (of t) (per t) u ∧ r = nI 1 ∨ ¬ sp_rel (of t) (per t) u ∧ r = nI 0)) := by
  intro sz
  refine xw_met (cc := b_Md_isReleased) (maxL := 3) (ret := (some .boolean)) (by decide) rfl (Nat.le_of_ble_eq_true rfl) (fun p e s m args below meth c hr hlk hnm hsz hKs C => ?_)
  have hn6 := hT.1
  refine xw_lvE (lv' := [(0, .ref (ad 38)), (1, .int (nI t)), (2, .int (nI u))]) rfl ?_
  refine xw_iload_n C 2 d_Md_isReleased_0 rfl rfl (pc' := 1) rfl ?_
  refine xw_aload_n C 0 d_Md_isReleased_1 rfl rfl (pc' := 2) rfl ?_
  refine xw_get C u_Md 38 zr_38 rfl 6 (by decide) k_576 rfl rfl d_Md_isReleased_2 (pc' := 5) rfl ?_
  refine xw_iload_n C 1 d_Md_isReleased_5 rfl rfl (pc' := 6) rfl ?_
  refine xw_iald C 42 0 zr_42 rfl t rfl (by omega) (by decide) d_Md_isReleased_6 (pc' := 7) rfl ?_
  refine xw_topi (y := nI (of t)) (hT.2.2 _ (by omega)).2.2.2.1 ?_
  have hti := hT.2.2 t ht
  refine xw_icmp_lt C (tgt := 32) d_Md_isReleased_7 (by decide) (pc' := 10) rfl (fun h7 => ?_) (fun h7 => ?_)
  ·
    replace h7 : u < (of t) := (nI_ltI (by omega) (by omega)).mp h7
    refine xw_iconst C (v := nI 0) d_Md_isReleased_32 (by decide) (pc' := 33) rfl ?_
    refine xw_zret C hr hlk xp_n0 (F := zW ca ad) M rfl ?_ d_Md_isReleased_33
    exact ⟨rfl, Or.inr ⟨fun h9 => by obtain ⟨h8, h9⟩ := h9; omega, rfl⟩⟩
  ·
    replace h7 : ¬ (u < (of t)) := fun hneg => h7 ((nI_ltI (by omega) (by omega)).mpr hneg)
    refine xw_iload_n C 2 d_Md_isReleased_10 rfl rfl (pc' := 11) rfl ?_
    refine xw_aload_n C 0 d_Md_isReleased_11 rfl rfl (pc' := 12) rfl ?_
    refine xw_get C u_Md 38 zr_38 rfl 6 (by decide) k_576 rfl rfl d_Md_isReleased_12 (pc' := 15) rfl ?_
    refine xw_iload_n C 1 d_Md_isReleased_15 rfl rfl (pc' := 16) rfl ?_
    refine xw_iald C 42 0 zr_42 rfl t rfl (by omega) (by decide) d_Md_isReleased_16 (pc' := 17) rfl ?_
    refine xw_topi (y := nI (of t)) (hT.2.2 _ (by omega)).2.2.2.1 ?_
    refine xw_isub C d_Md_isReleased_17 (pc' := 18) rfl ?_
    refine xw_topi (y := nI (u - (of t))) (pk_sub (by omega)) ?_
    refine xw_aload_n C 0 d_Md_isReleased_18 rfl rfl (pc' := 19) rfl ?_
    refine xw_get C u_Md 38 zr_38 rfl 3 (by decide) k_573 rfl rfl d_Md_isReleased_19 (pc' := 22) rfl ?_
    refine xw_iload_n C 1 d_Md_isReleased_22 rfl rfl (pc' := 23) rfl ?_
    refine xw_iald C 39 0 zr_39 rfl t rfl (by omega) (by decide) d_Md_isReleased_23 (pc' := 24) rfl ?_
    refine xw_topi (y := nI (per t)) (hT.2.2 _ (by omega)).1 ?_
    refine xw_irem C d_Md_isReleased_24 (nI_ne0 (by omega) (by omega)) (pc' := 25) rfl ?_
    refine xw_topi (y := nI ((u - (of t)) % (per t))) (pk_rem (by omega) (by omega) (by omega)) ?_
    have hm24 : (u - (of t)) % (per t) < (per t) := Nat.mod_lt _ (by omega)
    refine xw_if_ne C (tgt := 32) d_Md_isReleased_25 (by decide) (pc' := 28) rfl (fun h25 => ?_) (fun h25 => ?_)
    ·
      replace h25 : ¬ (((u - (of t)) % (per t)) = 0) := fun hneg => h25 ((xp_eq0 (by omega)).mpr hneg)
      refine xw_iconst C (v := nI 0) d_Md_isReleased_32 (by decide) (pc' := 33) rfl ?_
      refine xw_zret C hr hlk xp_n0 (F := zW ca ad) M rfl ?_ d_Md_isReleased_33
      exact ⟨rfl, Or.inr ⟨fun h9 => by obtain ⟨h8, h9⟩ := h9; omega, rfl⟩⟩
    ·
      replace h25 : ((u - (of t)) % (per t)) = 0 := (xp_eq0 (by omega)).mp h25
      refine xw_iconst C (v := nI 1) d_Md_isReleased_28 (by decide) (pc' := 29) rfl ?_
      refine xw_goto C (tgt := 33) d_Md_isReleased_29 (by decide) ?_
      refine xw_zret C hr hlk xp_n1 (F := zW ca ad) M rfl ?_ d_Md_isReleased_33
      exact ⟨rfl, Or.inl ⟨⟨by omega, h25⟩, rfl⟩⟩

set_option maxHeartbeats 4000000 in
set_option maxRecDepth 100000 in
/-- covering -/
theorem c_Md_covering (l : Launch) (D : va_G) (ca : Nat → ClassId) (ad : Nat → Nat) (M : Nat → Nat → Int32) (k : Nat) (st ln tk : Nat → Nat) (u : Nat) (hS : smOK M k st ln tk) (hu : u < 2 ^ 20) : xw_Mi l y_Md_covering (.code y_Md_covering b_Md_covering 4 (some .int) :: zG) { frames := 0, cells := 0, slots := 0, locals := 0 } D zCl (zT ca) [.ref (ad 38), .int (nI u)] (zW ca ad M) (fun _ => True) 0 0 (zW ca ad) (fun r M' => M' = M ∧ r = nI (sp_cov st ln k u)) := by
  intro sz
  refine xw_met (cc := b_Md_covering) (maxL := 4) (ret := (some .int)) (by decide) rfl (Nat.le_of_ble_eq_true rfl) (fun p e s m args below meth c hr hlk hnm hsz hKs C => ?_)
  have hk60 := hS.2.1
  have loop1 : ∀ (d : Nat) (i g : Nat), k - i = d → i ≤ k → g = sp_cov st ln i u → g ≤ i → XW p l e { frames := 0, cells := 0, slots := 0, locals := 0 } s m args below meth c D zCl (va_A (zW ca ad M) sz) s.heap 4 (zW ca ad M) 0 0 (MQ below (va_Qi (fun r M' => M' = M ∧ r = nI (sp_cov st ln k u)) (xw_B D zCl (zT ca) (va_A (zW ca ad M) sz) (zW ca ad)) (va_A (zW ca ad M) sz)) args s 0 0 (va_A (zW ca ad M) sz)) 4 [(0, .ref (ad 38)), (1, .int (nI u)), (2, .int (nI g)), (3, .int (nI i))] [] := by
    intro d
    induction d using Nat.strongRecOn with
    | _ d ih =>
      intro i g hd hi hg hgi
      refine xw_iload_n C 3 d_Md_covering_4 rfl rfl (pc' := 5) rfl ?_
      refine xw_aload_n C 0 d_Md_covering_5 rfl rfl (pc' := 6) rfl ?_
      refine xw_get C u_Md 38 zr_38 rfl 8 (by decide) k_578 rfl rfl d_Md_covering_6 (pc' := 9) rfl ?_
      refine xw_topi (y := nI k) hS.1 ?_
      refine xw_icmp_ge C (tgt := 53) d_Md_covering_9 (by decide) (pc' := 12) rfl (fun h9 => ?_) (fun h9 => ?_)
      ·
        replace h9 : k ≤ i := (nI_leI (by omega) (by omega)).mp h9
        refine xw_iload_n C 2 d_Md_covering_53 rfl rfl (pc' := 54) rfl ?_
        refine xw_iret C hr hlk (F := zW ca ad) M rfl ?_ d_Md_covering_54
        exact ⟨rfl, by rw [hg, show i = k by omega]⟩
      ·
        replace h9 : ¬ (k ≤ i) := fun hneg => h9 ((nI_leI (by omega) (by omega)).mpr hneg)
        refine xw_iload_n C 1 d_Md_covering_12 rfl rfl (pc' := 13) rfl ?_
        refine xw_aload_n C 0 d_Md_covering_13 rfl rfl (pc' := 14) rfl ?_
        refine xw_get C u_Md 38 zr_38 rfl 9 (by decide) k_579 rfl rfl d_Md_covering_14 (pc' := 17) rfl ?_
        refine xw_iload_n C 3 d_Md_covering_17 rfl rfl (pc' := 18) rfl ?_
        refine xw_iald C 44 0 zr_44 rfl i rfl (by omega) (by decide) d_Md_covering_18 (pc' := 19) rfl ?_
        refine xw_topi (y := nI (st i)) (hS.2.2 i (by omega)).1 ?_
        have hsi := hS.2.2 i (by omega)
        refine xw_icmp_lt C (tgt := 45) d_Md_covering_19 (by decide) (pc' := 22) rfl (fun h19 => ?_) (fun h19 => ?_)
        ·
          replace h19 : u < (st i) := (nI_ltI (by omega) (by omega)).mp h19
          refine xw_iload_n C 2 d_Md_covering_45 rfl rfl (pc' := 46) rfl ?_
          refine xw_istore_n C d_Md_covering_46 rfl (by decide) rfl (pc' := 47) rfl ?_
          refine xw_iinc C 3 (v := nI (i + 1)) d_Md_covering_47 rfl (xp_inc1 _) (by decide) rfl (pc' := 50) rfl ?_
          refine xw_goto C (tgt := 4) d_Md_covering_50 (by decide) ?_
          refine xw_lv [2, 3, 1, 0] rfl ?_
          exact ih (k - (i + 1)) (by omega) (i + 1) g rfl (by omega) (by rw [hg]; exact (sp_cov_0 (by omega)).symm) (by omega)
        ·
          replace h19 : ¬ (u < (st i)) := fun hneg => h19 ((nI_ltI (by omega) (by omega)).mpr hneg)
          refine xw_iload_n C 1 d_Md_covering_22 rfl rfl (pc' := 23) rfl ?_
          refine xw_aload_n C 0 d_Md_covering_23 rfl rfl (pc' := 24) rfl ?_
          refine xw_get C u_Md 38 zr_38 rfl 9 (by decide) k_579 rfl rfl d_Md_covering_24 (pc' := 27) rfl ?_
          refine xw_iload_n C 3 d_Md_covering_27 rfl rfl (pc' := 28) rfl ?_
          refine xw_iald C 44 0 zr_44 rfl i rfl (by omega) (by decide) d_Md_covering_28 (pc' := 29) rfl ?_
          refine xw_topi (y := nI (st i)) (hS.2.2 i (by omega)).1 ?_
          refine xw_aload_n C 0 d_Md_covering_29 rfl rfl (pc' := 30) rfl ?_
          refine xw_get C u_Md 38 zr_38 rfl 10 (by decide) k_580 rfl rfl d_Md_covering_30 (pc' := 33) rfl ?_
          refine xw_iload_n C 3 d_Md_covering_33 rfl rfl (pc' := 34) rfl ?_
          refine xw_iald C 45 0 zr_45 rfl i rfl (by omega) (by decide) d_Md_covering_34 (pc' := 35) rfl ?_
          refine xw_topi (y := nI (ln i)) (hS.2.2 i (by omega)).2.1 ?_
          refine xw_iadd C d_Md_covering_35 (pc' := 36) rfl ?_
          refine xw_topi (y := nI ((st i) + (ln i))) (nI_add _ _) ?_
          refine xw_icmp_ge C (tgt := 45) d_Md_covering_36 (by decide) (pc' := 39) rfl (fun h36 => ?_) (fun h36 => ?_)
          ·
            replace h36 : ((st i) + (ln i)) ≤ u := (nI_leI (by omega) (by omega)).mp h36
            refine xw_iload_n C 2 d_Md_covering_45 rfl rfl (pc' := 46) rfl ?_
            refine xw_istore_n C d_Md_covering_46 rfl (by decide) rfl (pc' := 47) rfl ?_
            refine xw_iinc C 3 (v := nI (i + 1)) d_Md_covering_47 rfl (xp_inc1 _) (by decide) rfl (pc' := 50) rfl ?_
            refine xw_goto C (tgt := 4) d_Md_covering_50 (by decide) ?_
            refine xw_lv [2, 3, 1, 0] rfl ?_
            exact ih (k - (i + 1)) (by omega) (i + 1) g rfl (by omega) (by rw [hg]; exact (sp_cov_0 (by omega)).symm) (by omega)
          ·
            replace h36 : ¬ (((st i) + (ln i)) ≤ u) := fun hneg => h36 ((nI_leI (by omega) (by omega)).mpr hneg)
            refine xw_iload_n C 2 d_Md_covering_39 rfl rfl (pc' := 40) rfl ?_
            refine xw_iconst C (v := nI 1) d_Md_covering_40 (by decide) (pc' := 41) rfl ?_
            refine xw_iadd C d_Md_covering_41 (pc' := 42) rfl ?_
            refine xw_topi (y := nI (g + 1)) (nI_add _ _) ?_
            refine xw_goto C (tgt := 46) d_Md_covering_42 (by decide) ?_
            refine xw_istore_n C d_Md_covering_46 rfl (by decide) rfl (pc' := 47) rfl ?_
            refine xw_iinc C 3 (v := nI (i + 1)) d_Md_covering_47 rfl (xp_inc1 _) (by decide) rfl (pc' := 50) rfl ?_
            refine xw_goto C (tgt := 4) d_Md_covering_50 (by decide) ?_
            refine xw_lv [2, 3, 1, 0] rfl ?_
            exact ih (k - (i + 1)) (by omega) (i + 1) (g + 1) rfl (by omega) (by rw [hg]; exact (sp_cov_1 (by omega)).symm) (by omega)
  refine xw_lvE (lv' := [(0, .ref (ad 38)), (1, .int (nI u))]) rfl ?_
  refine xw_iconst C (v := nI 0) d_Md_covering_0 (by decide) (pc' := 1) rfl ?_
  refine xw_istore_n C d_Md_covering_1 rfl (by decide) rfl (pc' := 2) rfl ?_
  refine xw_iconst C (v := nI 0) d_Md_covering_2 (by decide) (pc' := 3) rfl ?_
  refine xw_istore_n C d_Md_covering_3 rfl (by decide) rfl (pc' := 4) rfl ?_
  refine xw_lv [2, 3, 1, 0] rfl ?_
  exact loop1 k 0 0 rfl (by omega) rfl (by omega)

set_option maxHeartbeats 4000000 in
set_option maxRecDepth 100000 in
/-- at -/
theorem c_Md_at (l : Launch) (D : va_G) (ca : Nat → ClassId) (ad : Nat → Nat) (M : Nat → Nat → Int32) (k : Nat) (st ln tk : Nat → Nat) (u : Nat) (hS : smOK M k st ln tk) (hu : u < 2 ^ 20) : xw_Mi l y_Md_at (.code y_Md_at b_Md_at 4 (some .int) :: zG) { frames := 0, cells := 0, slots := 0, locals := 0 } D zCl (zT ca) [.ref (ad 38), .int (nI u)] (zW ca ad M) (fun _ => True) 0 0 (zW ca ad) (fun r M' => M' = M ∧ r = oI (sp_at st ln tk k u)) := by
  intro sz
  refine xw_met (cc := b_Md_at) (maxL := 4) (ret := (some .int)) (by decide) rfl (Nat.le_of_ble_eq_true rfl) (fun p e s m args below meth c hr hlk hnm hsz hKs C => ?_)
  have hk60 := hS.2.1
  have loop1 : ∀ (d : Nat) (i : Nat) (v : Int32), k - i = d → i ≤ k → v = oI (sp_at st ln tk i u) → XW p l e { frames := 0, cells := 0, slots := 0, locals := 0 } s m args below meth c D zCl (va_A (zW ca ad M) sz) s.heap 4 (zW ca ad M) 0 0 (MQ below (va_Qi (fun r M' => M' = M ∧ r = oI (sp_at st ln tk k u)) (xw_B D zCl (zT ca) (va_A (zW ca ad M) sz) (zW ca ad)) (va_A (zW ca ad M) sz)) args s 0 0 (va_A (zW ca ad M) sz)) 4 [(0, .ref (ad 38)), (1, .int (nI u)), (2, .int v), (3, .int (nI i))] [] := by
    intro d
    induction d using Nat.strongRecOn with
    | _ d ih =>
      intro i v hd hi hv
      refine xw_iload_n C 3 d_Md_at_4 rfl rfl (pc' := 5) rfl ?_
      refine xw_aload_n C 0 d_Md_at_5 rfl rfl (pc' := 6) rfl ?_
      refine xw_get C u_Md 38 zr_38 rfl 8 (by decide) k_578 rfl rfl d_Md_at_6 (pc' := 9) rfl ?_
      refine xw_topi (y := nI k) hS.1 ?_
      refine xw_icmp_ge C (tgt := 56) d_Md_at_9 (by decide) (pc' := 12) rfl (fun h9 => ?_) (fun h9 => ?_)
      ·
        replace h9 : k ≤ i := (nI_leI (by omega) (by omega)).mp h9
        refine xw_iload_n C 2 d_Md_at_56 rfl rfl (pc' := 57) rfl ?_
        refine xw_iret C hr hlk (F := zW ca ad) M rfl ?_ d_Md_at_57
        exact ⟨rfl, by rw [hv, show i = k by omega]⟩
      ·
        replace h9 : ¬ (k ≤ i) := fun hneg => h9 ((nI_leI (by omega) (by omega)).mpr hneg)
        refine xw_iload_n C 1 d_Md_at_12 rfl rfl (pc' := 13) rfl ?_
        refine xw_aload_n C 0 d_Md_at_13 rfl rfl (pc' := 14) rfl ?_
        refine xw_get C u_Md 38 zr_38 rfl 9 (by decide) k_579 rfl rfl d_Md_at_14 (pc' := 17) rfl ?_
        refine xw_iload_n C 3 d_Md_at_17 rfl rfl (pc' := 18) rfl ?_
        refine xw_iald C 44 0 zr_44 rfl i rfl (by omega) (by decide) d_Md_at_18 (pc' := 19) rfl ?_
        refine xw_topi (y := nI (st i)) (hS.2.2 i (by omega)).1 ?_
        have hsi := hS.2.2 i (by omega)
        refine xw_icmp_lt C (tgt := 48) d_Md_at_19 (by decide) (pc' := 22) rfl (fun h19 => ?_) (fun h19 => ?_)
        ·
          replace h19 : u < (st i) := (nI_ltI (by omega) (by omega)).mp h19
          refine xw_iload_n C 2 d_Md_at_48 rfl rfl (pc' := 49) rfl ?_
          refine xw_istore_n C d_Md_at_49 rfl (by decide) rfl (pc' := 50) rfl ?_
          refine xw_iinc C 3 (v := nI (i + 1)) d_Md_at_50 rfl (xp_inc1 _) (by decide) rfl (pc' := 53) rfl ?_
          refine xw_goto C (tgt := 4) d_Md_at_53 (by decide) ?_
          refine xw_lv [2, 3, 1, 0] rfl ?_
          exact ih (k - (i + 1)) (by omega) (i + 1) v rfl (by omega) (by rw [hv, sp_at_0 (by omega)])
        ·
          replace h19 : ¬ (u < (st i)) := fun hneg => h19 ((nI_ltI (by omega) (by omega)).mpr hneg)
          refine xw_iload_n C 1 d_Md_at_22 rfl rfl (pc' := 23) rfl ?_
          refine xw_aload_n C 0 d_Md_at_23 rfl rfl (pc' := 24) rfl ?_
          refine xw_get C u_Md 38 zr_38 rfl 9 (by decide) k_579 rfl rfl d_Md_at_24 (pc' := 27) rfl ?_
          refine xw_iload_n C 3 d_Md_at_27 rfl rfl (pc' := 28) rfl ?_
          refine xw_iald C 44 0 zr_44 rfl i rfl (by omega) (by decide) d_Md_at_28 (pc' := 29) rfl ?_
          refine xw_topi (y := nI (st i)) (hS.2.2 i (by omega)).1 ?_
          refine xw_aload_n C 0 d_Md_at_29 rfl rfl (pc' := 30) rfl ?_
          refine xw_get C u_Md 38 zr_38 rfl 10 (by decide) k_580 rfl rfl d_Md_at_30 (pc' := 33) rfl ?_
          refine xw_iload_n C 3 d_Md_at_33 rfl rfl (pc' := 34) rfl ?_
          refine xw_iald C 45 0 zr_45 rfl i rfl (by omega) (by decide) d_Md_at_34 (pc' := 35) rfl ?_
          refine xw_topi (y := nI (ln i)) (hS.2.2 i (by omega)).2.1 ?_
          refine xw_iadd C d_Md_at_35 (pc' := 36) rfl ?_
          refine xw_topi (y := nI ((st i) + (ln i))) (nI_add _ _) ?_
          refine xw_icmp_ge C (tgt := 48) d_Md_at_36 (by decide) (pc' := 39) rfl (fun h36 => ?_) (fun h36 => ?_)
          ·
            replace h36 : ((st i) + (ln i)) ≤ u := (nI_leI (by omega) (by omega)).mp h36
            refine xw_iload_n C 2 d_Md_at_48 rfl rfl (pc' := 49) rfl ?_
            refine xw_istore_n C d_Md_at_49 rfl (by decide) rfl (pc' := 50) rfl ?_
            refine xw_iinc C 3 (v := nI (i + 1)) d_Md_at_50 rfl (xp_inc1 _) (by decide) rfl (pc' := 53) rfl ?_
            refine xw_goto C (tgt := 4) d_Md_at_53 (by decide) ?_
            refine xw_lv [2, 3, 1, 0] rfl ?_
            exact ih (k - (i + 1)) (by omega) (i + 1) v rfl (by omega) (by rw [hv, sp_at_0 (by omega)])
          ·
            replace h36 : ¬ (((st i) + (ln i)) ≤ u) := fun hneg => h36 ((nI_leI (by omega) (by omega)).mpr hneg)
            refine xw_aload_n C 0 d_Md_at_39 rfl rfl (pc' := 40) rfl ?_
            refine xw_get C u_Md 38 zr_38 rfl 11 (by decide) k_581 rfl rfl d_Md_at_40 (pc' := 43) rfl ?_
            refine xw_iload_n C 3 d_Md_at_43 rfl rfl (pc' := 44) rfl ?_
            refine xw_iald C 46 0 zr_46 rfl i rfl (by omega) (by decide) d_Md_at_44 (pc' := 45) rfl ?_
            refine xw_topi (y := nI (tk i)) (hS.2.2 i (by omega)).2.2.1 ?_
            refine xw_goto C (tgt := 49) d_Md_at_45 (by decide) ?_
            refine xw_istore_n C d_Md_at_49 rfl (by decide) rfl (pc' := 50) rfl ?_
            refine xw_iinc C 3 (v := nI (i + 1)) d_Md_at_50 rfl (xp_inc1 _) (by decide) rfl (pc' := 53) rfl ?_
            refine xw_goto C (tgt := 4) d_Md_at_53 (by decide) ?_
            refine xw_lv [2, 3, 1, 0] rfl ?_
            exact ih (k - (i + 1)) (by omega) (i + 1) _ rfl (by omega) (by rw [sp_at_1 (by omega)]; rfl)
  refine xw_lvE (lv' := [(0, .ref (ad 38)), (1, .int (nI u))]) rfl ?_
  refine xw_iconst C (v := (-1)) d_Md_at_0 (by decide) (pc' := 1) rfl ?_
  refine xw_istore_n C d_Md_at_1 rfl (by decide) rfl (pc' := 2) rfl ?_
  refine xw_iconst C (v := nI 0) d_Md_at_2 (by decide) (pc' := 3) rfl ?_
  refine xw_istore_n C d_Md_at_3 rfl (by decide) rfl (pc' := 4) rfl ?_
  refine xw_lv [2, 3, 1, 0] rfl ?_
  exact loop1 k 0 _ rfl (by omega) rfl

theorem tmOK.per {M : Nat → Nat → Int32} {n : Nat} {per wk dl of : Nat → Nat} (h : tmOK M n per wk dl of) : ∀ t, t < n → M 39 t = nI (per t) ∧ 1 ≤ per t ∧ per t ≤ 48 := fun t ht => by
  have q := h.2.2 t ht
  exact ⟨q.1, by omega, by omega⟩

set_option maxHeartbeats 4000000 in
set_option maxRecDepth 100000 in
/-- whole -/
theorem c_Md_whole (l : Launch) (D : va_G) (ca : Nat → ClassId) (ad : Nat → Nat) (M : Nat → Nat → Int32) (n : Nat) (per wk dl of : Nat → Nat) (hT : tmOK M n per wk dl of) : xw_Mi l y_Md_whole (.code y_Md_whole b_Md_whole 4 (some .int) :: zG) { frames := 0, cells := 0, slots := 0, locals := 0 } D zCl (zT ca) [.ref (ad 38)] (zW ca ad M) (fun _ => True) 0 0 (zW ca ad) (fun r M' => M' = M ∧ ((∃ h, sp_rd n per h ∧ r = nI h) ∨ sp_no n per ∧ r = nI 241)) := by
  intro sz
  refine xw_met (cc := b_Md_whole) (maxL := 4) (ret := (some .int)) (by decide) rfl (Nat.le_of_ble_eq_true rfl) (fun p e s m args below meth c hr hlk hnm hsz hKs C => ?_)
  have hn6 := hT.1
  have loop1 : ∀ (d : Nat) (h a : Nat), 241 - h + 1 - a = d → h ≤ 241 → (a = 1 ∧ sp_cm n per h ∧ 1 ≤ h ∧ (∀ g, 1 ≤ g → g < h → ¬ sp_cm n per g) ∨ a = 0 ∧ ∀ g, 1 ≤ g → g ≤ h → ¬ sp_cm n per g) → XW p l e { frames := 0, cells := 0, slots := 0, locals := 0 } s m args below meth c D zCl (va_A (zW ca ad M) sz) s.heap 4 (zW ca ad M) 0 0 (MQ below (va_Qi (fun r M' => M' = M ∧ ((∃ h, sp_rd n per h ∧ r = nI h) ∨ sp_no n per ∧ r = nI 241)) (xw_B D zCl (zT ca) (va_A (zW ca ad M) sz) (zW ca ad)) (va_A (zW ca ad M) sz)) args s 0 0 (va_A (zW ca ad M) sz)) 4 [(0, .ref (ad 38)), (1, .int (nI h)), (2, .int (nI a))] [] := by
    intro d
    induction d using Nat.strongRecOn with
    | _ d ih =>
      intro h a hd hh hI
      have ha1 : a ≤ 1 := by rcases hI with r | r <;> omega
      refine xw_iload_n C 2 d_Md_whole_4 rfl rfl (pc' := 5) rfl ?_
      refine xw_if_ne C (tgt := 60) d_Md_whole_5 (by decide) (pc' := 8) rfl (fun h5 => ?_) (fun h5 => ?_)
      ·
        replace h5 : ¬ (a = 0) := fun hneg => h5 ((xp_eq0 (by omega)).mpr hneg)
        refine xw_iload_n C 2 d_Md_whole_60 rfl rfl (pc' := 61) rfl ?_
        refine xw_if_eq C (tgt := 68) d_Md_whole_61 (by decide) (pc' := 64) rfl (fun h61 => ?_) (fun h61 => ?_)
        ·
          replace h61 : a = 0 := (xp_eq0 (by omega)).mp h61
          refine xw_sipush C (v := nI 241) d_Md_whole_68 (by decide) (pc' := 71) rfl ?_
          refine xw_iret C hr hlk (F := zW ca ad) M rfl ?_ d_Md_whole_71
          refine ⟨rfl, Or.inr ⟨fun g h1 h2 => ?_, rfl⟩⟩
          rcases hI with r | r
          · omega
          · exact r.2 g h1 (by omega)
        ·
          replace h61 : ¬ (a = 0) := fun hneg => h61 ((xp_eq0 (by omega)).mpr hneg)
          refine xw_iload_n C 1 d_Md_whole_64 rfl rfl (pc' := 65) rfl ?_
          refine xw_goto C (tgt := 71) d_Md_whole_65 (by decide) ?_
          refine xw_iret C hr hlk (F := zW ca ad) M rfl ?_ d_Md_whole_71
          refine ⟨rfl, ?_⟩
          rcases hI with r | r
          · by_cases c9 : h ≤ 240
            · exact Or.inl ⟨h, ⟨r.2.2.1, c9, r.2.1, r.2.2.2⟩, rfl⟩
            · exact Or.inr ⟨fun g h1 h2 => r.2.2.2 g h1 (by omega), by rw [show h = 241 by omega]⟩
          · omega
      ·
        replace h5 : a = 0 := (xp_eq0 (by omega)).mp h5
        refine xw_iload_n C 1 d_Md_whole_8 rfl rfl (pc' := 9) rfl ?_
        refine xw_sipush C (v := nI 241) d_Md_whole_9 (by decide) (pc' := 12) rfl ?_
        refine xw_icmp_ge C (tgt := 60) d_Md_whole_12 (by decide) (pc' := 15) rfl (fun h12 => ?_) (fun h12 => ?_)
        ·
          replace h12 : 241 ≤ h := (nI_leI (by omega) (by omega)).mp h12
          refine xw_iload_n C 2 d_Md_whole_60 rfl rfl (pc' := 61) rfl ?_
          refine xw_if_eq C (tgt := 68) d_Md_whole_61 (by decide) (pc' := 64) rfl (fun h61 => ?_) (fun h61 => ?_)
          ·
            replace h61 : a = 0 := (xp_eq0 (by omega)).mp h61
            refine xw_sipush C (v := nI 241) d_Md_whole_68 (by decide) (pc' := 71) rfl ?_
            refine xw_iret C hr hlk (F := zW ca ad) M rfl ?_ d_Md_whole_71
            refine ⟨rfl, Or.inr ⟨fun g h1 h2 => ?_, rfl⟩⟩
            rcases hI with r | r
            · omega
            · exact r.2 g h1 (by omega)
          ·
            replace h61 : ¬ (a = 0) := fun hneg => h61 ((xp_eq0 (by omega)).mpr hneg)
            refine xw_iload_n C 1 d_Md_whole_64 rfl rfl (pc' := 65) rfl ?_
            refine xw_goto C (tgt := 71) d_Md_whole_65 (by decide) ?_
            refine xw_iret C hr hlk (F := zW ca ad) M rfl ?_ d_Md_whole_71
            refine ⟨rfl, ?_⟩
            rcases hI with r | r
            · by_cases c9 : h ≤ 240
              · exact Or.inl ⟨h, ⟨r.2.2.1, c9, r.2.1, r.2.2.2⟩, rfl⟩
              · exact Or.inr ⟨fun g h1 h2 => r.2.2.2 g h1 (by omega), by rw [show h = 241 by omega]⟩
            · omega
        ·
          replace h12 : ¬ (241 ≤ h) := fun hneg => h12 ((nI_leI (by omega) (by omega)).mpr hneg)
          refine xw_iinc C 1 (v := nI (h + 1)) d_Md_whole_15 rfl (xp_inc1 _) (by decide) rfl (pc' := 18) rfl ?_
          refine xw_iconst C (v := nI 1) d_Md_whole_18 (by decide) (pc' := 19) rfl ?_
          refine xw_istore_n C d_Md_whole_19 rfl (by decide) rfl (pc' := 20) rfl ?_
          refine xw_iconst C (v := nI 0) d_Md_whole_20 (by decide) (pc' := 21) rfl ?_
          refine xw_istore_n C d_Md_whole_21 rfl (by decide) rfl (pc' := 22) rfl ?_
          refine xw_lv [3, 2, 1, 0] rfl ?_
          have loop2 : ∀ (d2 : Nat) (t b : Nat), n - t = d2 → t ≤ n → (b = 1 ∧ (∀ u, u < t → (h + 1) % per u = 0) ∨ b = 0 ∧ ¬ sp_cm n per (h + 1)) → XW p l e { frames := 0, cells := 0, slots := 0, locals := 0 } s m args below meth c D zCl (va_A (zW ca ad M) sz) s.heap 4 (zW ca ad M) 0 0 (MQ below (va_Qi (fun r M' => M' = M ∧ ((∃ h, sp_rd n per h ∧ r = nI h) ∨ sp_no n per ∧ r = nI 241)) (xw_B D zCl (zT ca) (va_A (zW ca ad M) sz) (zW ca ad)) (va_A (zW ca ad M) sz)) args s 0 0 (va_A (zW ca ad M) sz)) 22 [(0, .ref (ad 38)), (1, .int (nI (h + 1))), (2, .int (nI b)), (3, .int (nI t))] [] := by
            intro d2
            induction d2 using Nat.strongRecOn with
            | _ d2 ih2 =>
              intro t b hd2 ht2 hb
              refine xw_iload_n C 3 d_Md_whole_22 rfl rfl (pc' := 23) rfl ?_
              refine xw_aload_n C 0 d_Md_whole_23 rfl rfl (pc' := 24) rfl ?_
              refine xw_get C u_Md 38 zr_38 rfl 2 (by decide) k_572 rfl rfl d_Md_whole_24 (pc' := 27) rfl ?_
              refine xw_topi (y := nI n) hT.2.1 ?_
              refine xw_icmp_ge C (tgt := 57) d_Md_whole_27 (by decide) (pc' := 30) rfl (fun h27 => ?_) (fun h27 => ?_)
              ·
                replace h27 : n ≤ t := (nI_leI (by omega) (by omega)).mp h27
                refine xw_goto C (tgt := 4) d_Md_whole_57 (by decide) ?_
                refine xw_lv [0, 1, 2] rfl ?_
                refine ih (241 - (h + 1) + 1 - b) (by rcases hb with q | q <;> omega) (h + 1) b rfl (by omega) ?_
                rcases hb with q | q
                · refine Or.inl ⟨q.1, fun u hu => q.2 u (by omega), by omega, fun g h1 h2 => ?_⟩
                  rcases hI with r | r
                  · omega
                  · exact r.2 g h1 (by omega)
                · refine Or.inr ⟨q.1, fun g h1 h2 => ?_⟩
                  rcases Nat.lt_or_ge g (h + 1) with c9 | c9
                  · rcases hI with r | r
                    · omega
                    · exact r.2 g h1 (by omega)
                  · rw [show g = h + 1 by omega]; exact q.2
              ·
                replace h27 : ¬ (n ≤ t) := fun hneg => h27 ((nI_leI (by omega) (by omega)).mpr hneg)
                refine xw_iload_n C 2 d_Md_whole_30 rfl rfl (pc' := 31) rfl ?_
                refine xw_if_eq C (tgt := 49) d_Md_whole_31 (by decide) (pc' := 34) rfl (fun h31 => ?_) (fun h31 => ?_)
                ·
                  replace h31 : b = 0 := (xp_eq0 (by omega)).mp h31
                  refine xw_iconst C (v := nI 0) d_Md_whole_49 (by decide) (pc' := 50) rfl ?_
                  refine xw_istore_n C d_Md_whole_50 rfl (by decide) rfl (pc' := 51) rfl ?_
                  refine xw_iinc C 3 (v := nI (t + 1)) d_Md_whole_51 rfl (xp_inc1 _) (by decide) rfl (pc' := 54) rfl ?_
                  refine xw_goto C (tgt := 22) d_Md_whole_54 (by decide) ?_
                  refine xw_lv [2, 3, 1, 0] rfl ?_
                  refine ih2 (n - (t + 1)) (by omega) (t + 1) 0 rfl (by omega) (Or.inr ⟨rfl, ?_⟩)
                  rcases hb with q | q
                  · exact fun h9 => absurd (h9 t (by omega)) (by omega)
                  · exact q.2
                ·
                  replace h31 : ¬ (b = 0) := fun hneg => h31 ((xp_eq0 (by omega)).mpr hneg)
                  refine xw_iload_n C 1 d_Md_whole_34 rfl rfl (pc' := 35) rfl ?_
                  refine xw_aload_n C 0 d_Md_whole_35 rfl rfl (pc' := 36) rfl ?_
                  refine xw_get C u_Md 38 zr_38 rfl 3 (by decide) k_573 rfl rfl d_Md_whole_36 (pc' := 39) rfl ?_
                  refine xw_iload_n C 3 d_Md_whole_39 rfl rfl (pc' := 40) rfl ?_
                  refine xw_iald C 39 0 zr_39 rfl t rfl (by omega) (by decide) d_Md_whole_40 (pc' := 41) rfl ?_
                  refine xw_topi (y := nI (per t)) (hT.2.2 _ (by omega)).1 ?_
                  have hpt := hT.per t (by omega)
                  refine xw_irem C d_Md_whole_41 (nI_ne0 (by omega) (by omega)) (pc' := 42) rfl ?_
                  refine xw_topi (y := nI ((h + 1) % (per t))) (pk_rem (by omega) (by omega) (by omega)) ?_
                  have hm41 : (h + 1) % (per t) < (per t) := Nat.mod_lt _ (by omega)
                  refine xw_if_ne C (tgt := 49) d_Md_whole_42 (by decide) (pc' := 45) rfl (fun h42 => ?_) (fun h42 => ?_)
                  ·
                    replace h42 : ¬ (((h + 1) % (per t)) = 0) := fun hneg => h42 ((xp_eq0 (by omega)).mpr hneg)
                    refine xw_iconst C (v := nI 0) d_Md_whole_49 (by decide) (pc' := 50) rfl ?_
                    refine xw_istore_n C d_Md_whole_50 rfl (by decide) rfl (pc' := 51) rfl ?_
                    refine xw_iinc C 3 (v := nI (t + 1)) d_Md_whole_51 rfl (xp_inc1 _) (by decide) rfl (pc' := 54) rfl ?_
                    refine xw_goto C (tgt := 22) d_Md_whole_54 (by decide) ?_
                    refine xw_lv [2, 3, 1, 0] rfl ?_
                    refine ih2 (n - (t + 1)) (by omega) (t + 1) 0 rfl (by omega) (Or.inr ⟨rfl, ?_⟩)
                    rcases hb with q | q
                    · exact fun h9 => absurd (h9 t (by omega)) (by omega)
                    · exact q.2
                  ·
                    replace h42 : ((h + 1) % (per t)) = 0 := (xp_eq0 (by omega)).mp h42
                    refine xw_iconst C (v := nI 1) d_Md_whole_45 (by decide) (pc' := 46) rfl ?_
                    refine xw_goto C (tgt := 50) d_Md_whole_46 (by decide) ?_
                    refine xw_istore_n C d_Md_whole_50 rfl (by decide) rfl (pc' := 51) rfl ?_
                    refine xw_iinc C 3 (v := nI (t + 1)) d_Md_whole_51 rfl (xp_inc1 _) (by decide) rfl (pc' := 54) rfl ?_
                    refine xw_goto C (tgt := 22) d_Md_whole_54 (by decide) ?_
                    refine xw_lv [2, 3, 1, 0] rfl ?_
                    refine ih2 (n - (t + 1)) (by omega) (t + 1) 1 rfl (by omega) (Or.inl ⟨rfl, fun u hu => ?_⟩)
                    rcases Nat.lt_or_ge u t with c9 | c9
                    · rcases hb with q | q
                      · exact q.2 u c9
                      · omega
                    · rw [show u = t by omega]; exact h42
          exact loop2 n 0 1 rfl (by omega) (Or.inl ⟨rfl, fun u hu => by omega⟩)
  refine xw_lvE (lv' := [(0, .ref (ad 38))]) rfl ?_
  refine xw_iconst C (v := nI 0) d_Md_whole_0 (by decide) (pc' := 1) rfl ?_
  refine xw_istore_n C d_Md_whole_1 rfl (by decide) rfl (pc' := 2) rfl ?_
  refine xw_iconst C (v := nI 0) d_Md_whole_2 (by decide) (pc' := 3) rfl ?_
  refine xw_istore_n C d_Md_whole_3 rfl (by decide) rfl (pc' := 4) rfl ?_
  refine xw_lv [2, 1, 0] rfl ?_
  exact loop1 _ 0 0 rfl (by omega) (Or.inr ⟨rfl, fun g h1 h2 => by omega⟩)

set_option maxHeartbeats 4000000 in
set_option maxRecDepth 100000 in
/-- round -/
theorem c_Md_round (l : Launch) (D : va_G) (ca : Nat → ClassId) (ad : Nat → Nat) (M : Nat → Nat → Int32) (n : Nat) (per wk dl of : Nat → Nat) (hT : tmOK M n per wk dl of) : xw_Mi l y_Md_round (.code y_Md_round b_Md_round 2 (some .int) :: zG) { frames := 1, cells := 0, slots := 0, locals := 23 } D zCl (zT ca) [.ref (ad 38)] (zW ca ad M) (fun _ => True) 0 0 (zW ca ad) (fun r M' => M' = zst M 38 0 (nI 0) ∧ ((∃ h, sp_rd n per h ∧ r = nI h) ∨ sp_no n per ∧ r = -3)) := by
  intro sz
  refine xw_met (cc := b_Md_round) (maxL := 2) (ret := (some .int)) (by decide) rfl (Nat.le_of_ble_eq_true rfl) (fun p e s m args below meth c hr hlk hnm hsz hKs C => ?_)
  refine xw_lvE (lv' := [(0, .ref (ad 38))]) rfl ?_
  refine xw_aload_n C 0 d_Md_round_0 rfl rfl (pc' := 1) rfl ?_
  refine xw_iconst C (v := nI 0) d_Md_round_1 (by decide) (pc' := 2) rfl ?_
  obtain ⟨M1, hM1⟩ : ∃ zq, zq = zst M 38 0 (nI 0) := ⟨_, rfl⟩
  refine xw_put C u_Md t_Md t_Md_ok n_Md 38 zr_38 rfl 0 (by decide) k_570 rfl rfl (t_Md_ok 0 (by decide)) rfl rfl (Nat.le_of_ble_eq_true rfl) (ws' := zW ca ad M1) (by rw [hM1]; exact zs_38_0 _) d_Md_round_2 (pc' := 5) rfl ?_
  have hT1 : tmOK M1 n per wk dl of := hT.keep (by rw [hM1, zst_ap, if_neg (by omega)]) (fun a j h1 h2 => by rw [hM1, zst_ap, if_neg (by omega)])
  refine xw_aload_n C 0 d_Md_round_5 rfl rfl (pc' := 6) rfl ?_
  refine xw_callVi C (c_Md_whole l D ca ad M1 n per wk dl of hT1) ⟨zg_B C 0 k_666 k_31 k_669 q_Md_whole ⟨by decide, by decide⟩, C.2.2.2.2.1 _ k_668, C.2.2.2.2.1 _ k_11⟩ 38 zr_38 rfl rfl (fun _ _ _ _ h => h) (fun _ _ _ _ _ _ _ => trivial) rfl rfl (Nat.le_of_ble_eq_true rfl) d_Md_round_6 ⟨by decide, by decide⟩ (pc' := 9) rfl (fun r2 M3 hp4 => ?_)
  obtain ⟨hme, hre⟩ := hp4
  rw [hme]
  clear hme
  rcases hre with ⟨h, hrd, hre⟩ | ⟨hnr, hre⟩
  ·
    rw [hre]
    have hh1 := hrd.1
    have hh2 := hrd.2.1
    refine xw_istore_n C d_Md_round_9 rfl (by decide) rfl (pc' := 10) rfl ?_
    refine xw_iload_n C 0 d_Md_round_10 rfl rfl (pc' := 11) rfl ?_
    refine xw_sipush C (v := nI 240) d_Md_round_11 (by decide) (pc' := 14) rfl ?_
    refine xw_icmp_le C (tgt := 22) d_Md_round_14 (by decide) (pc' := 17) rfl (fun h14 => ?_) (fun h14 => ?_)
    ·
      replace h14 : h ≤ 240 := (nI_leI (by omega) (by omega)).mp h14
      refine xw_iload_n C 0 d_Md_round_22 rfl rfl (pc' := 23) rfl ?_
      refine xw_iret C hr hlk (F := zW ca ad) M1 rfl ?_ d_Md_round_23
      exact ⟨hM1, Or.inl ⟨h, hrd, rfl⟩⟩
    ·
      replace h14 : ¬ (h ≤ 240) := fun hneg => h14 ((nI_leI (by omega) (by omega)).mpr hneg)
      omega
  ·
    rw [hre]
    refine xw_istore_n C d_Md_round_9 rfl (by decide) rfl (pc' := 10) rfl ?_
    refine xw_iload_n C 0 d_Md_round_10 rfl rfl (pc' := 11) rfl ?_
    refine xw_sipush C (v := nI 240) d_Md_round_11 (by decide) (pc' := 14) rfl ?_
    refine xw_icmp_le C (tgt := 22) d_Md_round_14 (by decide) (pc' := 17) rfl (fun h14 => ?_) (fun h14 => ?_)
    ·
      replace h14 : 241 ≤ 240 := (nI_leI (by omega) (by omega)).mp h14
      omega
    ·
      replace h14 : ¬ (241 ≤ 240) := fun hneg => h14 ((nI_leI (by omega) (by omega)).mpr hneg)
      refine xw_bipush C (v := (-3)) d_Md_round_17 (by decide) (pc' := 19) rfl ?_
      refine xw_goto C (tgt := 23) d_Md_round_19 (by decide) ?_
      refine xw_iret C hr hlk (F := zW ca ad) M1 rfl ?_ d_Md_round_23
      exact ⟨hM1, Or.inr ⟨hnr, rfl⟩⟩
