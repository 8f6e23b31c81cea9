/-- a task's imagined job in the reference: what it wants, when its window ends -/
def ml1 (M : Nat → Nat → Int32) (t wk dl w en : Nat) : Prop := (M 49 t = nI 0 ∧ w = 0) ∨ (M 49 t = nI 1 ∧ ∃ hd sn, M 51 t = nI hd ∧ M 50 t = nI sn ∧ hd ≤ wk ∧ w = wk - hd ∧ en = sn + dl ∧ sn < 2 ^ 19)
def mlOK (M : Nat → Nat → Int32) (n : Nat) (wk dl w en : Nat → Nat) : Prop := ∀ t, t < n → ml1 M t (wk t) (dl t) (w t) (en t)
theorem ml1.keep {M M1 : Nat → Nat → Int32} {t wk dl w en : Nat} (h : ml1 M t wk dl w en) (h1 : M1 49 t = M 49 t) (h2 : M1 50 t = M 50 t) (h3 : M1 51 t = M 51 t) : ml1 M1 t wk dl w en := by
  unfold ml1
  rw [h1, h2, h3]
  exact h
theorem ml1.live {M : Nat → Nat → Int32} {t wk dl w en : Nat} (h : ml1 M t wk dl w en) (hw : 0 < w) : M 49 t = nI 1 ∧ ∃ hd sn, M 51 t = nI hd ∧ M 50 t = nI sn ∧ hd ≤ wk ∧ w = wk - hd ∧ en = sn + dl ∧ sn < 2 ^ 19 := by
  rcases h with q | q
  · omega
  · exact q

set_option maxHeartbeats 4000000 in
set_option maxRecDepth 100000 in
/-- chosen -/
theorem c_Md_chosen (l : Launch) (D : va_G) (ca : Nat → ClassId) (ad : Nat → Nat) (M : Nat → Nat → Int32) (n : Nat) (per wk dl of w en : Nat → Nat) (hT : tmOK M n per wk dl of) (hL : mlOK M n wk dl w en) : xw_Mi l y_Md_chosen (.code y_Md_chosen b_Md_chosen 4 (some .int) :: zG) { frames := 0, cells := 0, slots := 0, locals := 0 } D zCl (zT ca) [.ref (ad 38)] (zW ca ad M) (fun _ => True) 0 0 (zW ca ad) (fun r M' => M' = M ∧ r = oI (pl_pk w en n)) := by
  intro sz
  refine xw_met (cc := b_Md_chosen) (maxL := 4) (ret := (some .int)) (by decide) rfl (Nat.le_of_ble_eq_true rfl) (fun p e s m args below meth c hr hlk hnm hsz hKs C => ?_)
  have hn6 := hT.1
  have loop1 : ∀ (d : Nat) (i : Nat) (v : Int32), n - i = d → i ≤ n → v = oI (pl_pk w en i) → XW p l e { frames := 0, cells := 0, slots := 0, locals := 0 } s m args below meth c D zCl (va_A (zW ca ad M) sz) s.heap 4 (zW ca ad M) 0 0 (MQ below (va_Qi (fun r M' => M' = M ∧ r = oI (pl_pk w en n)) (xw_B D zCl (zT ca) (va_A (zW ca ad M) sz) (zW ca ad)) (va_A (zW ca ad M) sz)) args s 0 0 (va_A (zW ca ad M) sz)) 4 [(0, .ref (ad 38)), (1, .int v), (2, .int (nI i))] [] := by
    intro d
    induction d using Nat.strongRecOn with
    | _ d ih =>
      intro i v hd hi hv
      rcases hq : pl_pk w en i with _ | b
      ·
        have hv : v = -1 := by rw [hv, hq]; rfl
        subst hv
        refine xw_iload_n C 2 d_Md_chosen_4 rfl rfl (pc' := 5) rfl ?_
        refine xw_aload_n C 0 d_Md_chosen_5 rfl rfl (pc' := 6) rfl ?_
        refine xw_get C u_Md 38 zr_38 rfl 2 (by decide) k_572 rfl rfl d_Md_chosen_6 (pc' := 9) rfl ?_
        refine xw_topi (y := nI n) hT.2.1 ?_
        refine xw_icmp_ge C (tgt := 91) d_Md_chosen_9 (by decide) (pc' := 12) rfl (fun h9 => ?_) (fun h9 => ?_)
        ·
          replace h9 : n ≤ i := (nI_leI (by omega) (by omega)).mp h9
          refine xw_iload_n C 1 d_Md_chosen_91 rfl rfl (pc' := 92) rfl ?_
          refine xw_iret C hr hlk (F := zW ca ad) M rfl ?_ d_Md_chosen_92
          exact ⟨rfl, by rw [show n = i by omega, hq]; rfl⟩
        ·
          replace h9 : ¬ (n ≤ i) := fun hneg => h9 ((nI_leI (by omega) (by omega)).mpr hneg)
          refine xw_aload_n C 0 d_Md_chosen_12 rfl rfl (pc' := 13) rfl ?_
          refine xw_get C u_Md 38 zr_38 rfl 15 (by decide) k_585 rfl rfl d_Md_chosen_13 (pc' := 16) rfl ?_
          refine xw_iload_n C 2 d_Md_chosen_16 rfl rfl (pc' := 17) rfl ?_
          refine xw_zald C 49 2 zr_49 rfl i rfl (by omega) (by decide) d_Md_chosen_17 (pc' := 18) rfl ?_
          have hti := hT.2.2 i (by omega)
          rcases hL i (by omega) with ⟨hlv, hw0⟩ | ⟨hlv, hd, sn, hhd, hsn, hle, hwe, hee, hsb⟩
          ·
            refine xw_topi (y := nI 0) hlv ?_
            refine xw_if_eq C (tgt := 40) d_Md_chosen_18 (by decide) (pc' := 21) rfl (fun h18 => ?_) (fun h18 => ?_)
            ·
              replace h18 : 0 = 0 := (xp_eq0 (by omega)).mp h18
              refine xw_iconst C (v := nI 0) d_Md_chosen_40 (by decide) (pc' := 41) rfl ?_
              refine xw_istore_n C d_Md_chosen_41 rfl (by decide) rfl (pc' := 42) rfl ?_
              refine xw_iload_n C 0 d_Md_chosen_42 rfl rfl (pc' := 43) rfl ?_
              refine xw_if_eq C (tgt := 83) d_Md_chosen_43 (by decide) (pc' := 46) rfl (fun h43 => ?_) (fun h43 => ?_)
              ·
                replace h43 : 0 = 0 := (xp_eq0 (by omega)).mp h43
                refine xw_iload_n C 2 d_Md_chosen_83 rfl rfl (pc' := 84) rfl ?_
                refine xw_istore_n C d_Md_chosen_84 rfl (by decide) rfl (pc' := 85) rfl ?_
                refine xw_iinc C 3 (v := nI (i + 1)) d_Md_chosen_85 rfl (xp_inc1 _) (by decide) rfl (pc' := 88) rfl ?_
                refine xw_goto C (tgt := 4) d_Md_chosen_88 (by decide) ?_
                refine xw_lv [3, 1, 0] rfl ?_
                exact ih (n - (i + 1)) (by omega) (i + 1) _ rfl (by omega) (by rw [pl_pk_n0 hq (by omega)]; rfl)
              ·
                replace h43 : ¬ (0 = 0) := fun hneg => h43 ((xp_eq0 (by omega)).mpr hneg)
                omega
            ·
              replace h18 : ¬ (0 = 0) := fun hneg => h18 ((xp_eq0 (by omega)).mpr hneg)
              omega
          ·
            refine xw_topi (y := nI 1) hlv ?_
            refine xw_if_eq C (tgt := 40) d_Md_chosen_18 (by decide) (pc' := 21) rfl (fun h18 => ?_) (fun h18 => ?_)
            ·
              replace h18 : 1 = 0 := (xp_eq0 (by omega)).mp h18
              omega
            ·
              replace h18 : ¬ (1 = 0) := fun hneg => h18 ((xp_eq0 (by omega)).mpr hneg)
              refine xw_aload_n C 0 d_Md_chosen_21 rfl rfl (pc' := 22) rfl ?_
              refine xw_get C u_Md 38 zr_38 rfl 17 (by decide) k_587 rfl rfl d_Md_chosen_22 (pc' := 25) rfl ?_
              refine xw_iload_n C 2 d_Md_chosen_25 rfl rfl (pc' := 26) rfl ?_
              refine xw_iald C 51 0 zr_51 rfl i rfl (by omega) (by decide) d_Md_chosen_26 (pc' := 27) rfl ?_
              refine xw_topi (y := nI hd) hhd ?_
              refine xw_aload_n C 0 d_Md_chosen_27 rfl rfl (pc' := 28) rfl ?_
              refine xw_get C u_Md 38 zr_38 rfl 4 (by decide) k_574 rfl rfl d_Md_chosen_28 (pc' := 31) rfl ?_
              refine xw_iload_n C 2 d_Md_chosen_31 rfl rfl (pc' := 32) rfl ?_
              refine xw_iald C 40 0 zr_40 rfl i rfl (by omega) (by decide) d_Md_chosen_32 (pc' := 33) rfl ?_
              refine xw_topi (y := nI (wk i)) (hT.2.2 _ (by omega)).2.1 ?_
              refine xw_icmp_ge C (tgt := 40) d_Md_chosen_33 (by decide) (pc' := 36) rfl (fun h33 => ?_) (fun h33 => ?_)
              ·
                replace h33 : (wk i) ≤ hd := (nI_leI (by omega) (by omega)).mp h33
                refine xw_iconst C (v := nI 0) d_Md_chosen_40 (by decide) (pc' := 41) rfl ?_
                refine xw_istore_n C d_Md_chosen_41 rfl (by decide) rfl (pc' := 42) rfl ?_
                refine xw_iload_n C 0 d_Md_chosen_42 rfl rfl (pc' := 43) rfl ?_
                refine xw_if_eq C (tgt := 83) d_Md_chosen_43 (by decide) (pc' := 46) rfl (fun h43 => ?_) (fun h43 => ?_)
                ·
                  replace h43 : 0 = 0 := (xp_eq0 (by omega)).mp h43
                  refine xw_iload_n C 2 d_Md_chosen_83 rfl rfl (pc' := 84) rfl ?_
                  refine xw_istore_n C d_Md_chosen_84 rfl (by decide) rfl (pc' := 85) rfl ?_
                  refine xw_iinc C 3 (v := nI (i + 1)) d_Md_chosen_85 rfl (xp_inc1 _) (by decide) rfl (pc' := 88) rfl ?_
                  refine xw_goto C (tgt := 4) d_Md_chosen_88 (by decide) ?_
                  refine xw_lv [3, 1, 0] rfl ?_
                  exact ih (n - (i + 1)) (by omega) (i + 1) _ rfl (by omega) (by rw [pl_pk_n0 hq (by omega)]; rfl)
                ·
                  replace h43 : ¬ (0 = 0) := fun hneg => h43 ((xp_eq0 (by omega)).mpr hneg)
                  omega
              ·
                replace h33 : ¬ ((wk i) ≤ hd) := fun hneg => h33 ((nI_leI (by omega) (by omega)).mpr hneg)
                refine xw_iconst C (v := nI 1) d_Md_chosen_36 (by decide) (pc' := 37) rfl ?_
                refine xw_goto C (tgt := 41) d_Md_chosen_37 (by decide) ?_
                refine xw_istore_n C d_Md_chosen_41 rfl (by decide) rfl (pc' := 42) rfl ?_
                refine xw_iload_n C 0 d_Md_chosen_42 rfl rfl (pc' := 43) rfl ?_
                refine xw_if_eq C (tgt := 83) d_Md_chosen_43 (by decide) (pc' := 46) rfl (fun h43 => ?_) (fun h43 => ?_)
                ·
                  replace h43 : 1 = 0 := (xp_eq0 (by omega)).mp h43
                  omega
                ·
                  replace h43 : ¬ (1 = 0) := fun hneg => h43 ((xp_eq0 (by omega)).mpr hneg)
                  refine xw_iload_n C 2 d_Md_chosen_46 rfl rfl (pc' := 47) rfl ?_
                  refine xw_if_lt C (tgt := 79) d_Md_chosen_47 (by decide) (pc' := 50) rfl (fun h47 => ?_) (fun h47 => ?_)
                  ·
                    refine xw_iload_n C 3 d_Md_chosen_79 rfl rfl (pc' := 80) rfl ?_
                    refine xw_goto C (tgt := 84) d_Md_chosen_80 (by decide) ?_
                    refine xw_istore_n C d_Md_chosen_84 rfl (by decide) rfl (pc' := 85) rfl ?_
                    refine xw_iinc C 3 (v := nI (i + 1)) d_Md_chosen_85 rfl (xp_inc1 _) (by decide) rfl (pc' := 88) rfl ?_
                    refine xw_goto C (tgt := 4) d_Md_chosen_88 (by decide) ?_
                    refine xw_lv [3, 1, 0] rfl ?_
                    exact ih (n - (i + 1)) (by omega) (i + 1) _ rfl (by omega) (by rw [pl_pk_n1 hq (by omega)]; rfl)
                  ·
                    exact absurd (by decide) h47
      ·
        have hv : v = nI b := by rw [hv, hq]; rfl
        subst hv
        have hb := pl_pk_lt hq
        obtain ⟨hlb, hdb, sb, hhb2, hsb2, hle2, hwe2, hee2, hsbb⟩ := (hL b (by omega)).live hb.2
        have htb := hT.2.2 b (by omega)
        refine xw_iload_n C 2 d_Md_chosen_4 rfl rfl (pc' := 5) rfl ?_
        refine xw_aload_n C 0 d_Md_chosen_5 rfl rfl (pc' := 6) rfl ?_
        refine xw_get C u_Md 38 zr_38 rfl 2 (by decide) k_572 rfl rfl d_Md_chosen_6 (pc' := 9) rfl ?_
        refine xw_topi (y := nI n) hT.2.1 ?_
        refine xw_icmp_ge C (tgt := 91) d_Md_chosen_9 (by decide) (pc' := 12) rfl (fun h9 => ?_) (fun h9 => ?_)
        ·
          replace h9 : n ≤ i := (nI_leI (by omega) (by omega)).mp h9
          refine xw_iload_n C 1 d_Md_chosen_91 rfl rfl (pc' := 92) rfl ?_
          refine xw_iret C hr hlk (F := zW ca ad) M rfl ?_ d_Md_chosen_92
          exact ⟨rfl, by rw [show n = i by omega, hq]; rfl⟩
        ·
          replace h9 : ¬ (n ≤ i) := fun hneg => h9 ((nI_leI (by omega) (by omega)).mpr hneg)
          refine xw_aload_n C 0 d_Md_chosen_12 rfl rfl (pc' := 13) rfl ?_
          refine xw_get C u_Md 38 zr_38 rfl 15 (by decide) k_585 rfl rfl d_Md_chosen_13 (pc' := 16) rfl ?_
          refine xw_iload_n C 2 d_Md_chosen_16 rfl rfl (pc' := 17) rfl ?_
          refine xw_zald C 49 2 zr_49 rfl i rfl (by omega) (by decide) d_Md_chosen_17 (pc' := 18) rfl ?_
          have hti := hT.2.2 i (by omega)
          rcases hL i (by omega) with ⟨hlv, hw0⟩ | ⟨hlv, hd, sn, hhd, hsn, hle, hwe, hee, hsb⟩
          ·
            refine xw_topi (y := nI 0) hlv ?_
            refine xw_if_eq C (tgt := 40) d_Md_chosen_18 (by decide) (pc' := 21) rfl (fun h18 => ?_) (fun h18 => ?_)
            ·
              replace h18 : 0 = 0 := (xp_eq0 (by omega)).mp h18
              refine xw_iconst C (v := nI 0) d_Md_chosen_40 (by decide) (pc' := 41) rfl ?_
              refine xw_istore_n C d_Md_chosen_41 rfl (by decide) rfl (pc' := 42) rfl ?_
              refine xw_iload_n C 0 d_Md_chosen_42 rfl rfl (pc' := 43) rfl ?_
              refine xw_if_eq C (tgt := 83) d_Md_chosen_43 (by decide) (pc' := 46) rfl (fun h43 => ?_) (fun h43 => ?_)
              ·
                replace h43 : 0 = 0 := (xp_eq0 (by omega)).mp h43
                refine xw_iload_n C 2 d_Md_chosen_83 rfl rfl (pc' := 84) rfl ?_
                refine xw_istore_n C d_Md_chosen_84 rfl (by decide) rfl (pc' := 85) rfl ?_
                refine xw_iinc C 3 (v := nI (i + 1)) d_Md_chosen_85 rfl (xp_inc1 _) (by decide) rfl (pc' := 88) rfl ?_
                refine xw_goto C (tgt := 4) d_Md_chosen_88 (by decide) ?_
                refine xw_lv [3, 1, 0] rfl ?_
                exact ih (n - (i + 1)) (by omega) (i + 1) _ rfl (by omega) (by rw [pl_pk_s0 hq (by omega)]; rfl)
              ·
                replace h43 : ¬ (0 = 0) := fun hneg => h43 ((xp_eq0 (by omega)).mpr hneg)
                omega
            ·
              replace h18 : ¬ (0 = 0) := fun hneg => h18 ((xp_eq0 (by omega)).mpr hneg)
              omega
          ·
            refine xw_topi (y := nI 1) hlv ?_
            refine xw_if_eq C (tgt := 40) d_Md_chosen_18 (by decide) (pc' := 21) rfl (fun h18 => ?_) (fun h18 => ?_)
            ·
              replace h18 : 1 = 0 := (xp_eq0 (by omega)).mp h18
              omega
            ·
              replace h18 : ¬ (1 = 0) := fun hneg => h18 ((xp_eq0 (by omega)).mpr hneg)
              refine xw_aload_n C 0 d_Md_chosen_21 rfl rfl (pc' := 22) rfl ?_
              refine xw_get C u_Md 38 zr_38 rfl 17 (by decide) k_587 rfl rfl d_Md_chosen_22 (pc' := 25) rfl ?_
              refine xw_iload_n C 2 d_Md_chosen_25 rfl rfl (pc' := 26) rfl ?_
              refine xw_iald C 51 0 zr_51 rfl i rfl (by omega) (by decide) d_Md_chosen_26 (pc' := 27) rfl ?_
              refine xw_topi (y := nI hd) hhd ?_
              refine xw_aload_n C 0 d_Md_chosen_27 rfl rfl (pc' := 28) rfl ?_
              refine xw_get C u_Md 38 zr_38 rfl 4 (by decide) k_574 rfl rfl d_Md_chosen_28 (pc' := 31) rfl ?_
              refine xw_iload_n C 2 d_Md_chosen_31 rfl rfl (pc' := 32) rfl ?_
              refine xw_iald C 40 0 zr_40 rfl i rfl (by omega) (by decide) d_Md_chosen_32 (pc' := 33) rfl ?_
              refine xw_topi (y := nI (wk i)) (hT.2.2 _ (by omega)).2.1 ?_
              refine xw_icmp_ge C (tgt := 40) d_Md_chosen_33 (by decide) (pc' := 36) rfl (fun h33 => ?_) (fun h33 => ?_)
              ·
                replace h33 : (wk i) ≤ hd := (nI_leI (by omega) (by omega)).mp h33
                refine xw_iconst C (v := nI 0) d_Md_chosen_40 (by decide) (pc' := 41) rfl ?_
                refine xw_istore_n C d_Md_chosen_41 rfl (by decide) rfl (pc' := 42) rfl ?_
                refine xw_iload_n C 0 d_Md_chosen_42 rfl rfl (pc' := 43) rfl ?_
                refine xw_if_eq C (tgt := 83) d_Md_chosen_43 (by decide) (pc' := 46) rfl (fun h43 => ?_) (fun h43 => ?_)
                ·
                  replace h43 : 0 = 0 := (xp_eq0 (by omega)).mp h43
                  refine xw_iload_n C 2 d_Md_chosen_83 rfl rfl (pc' := 84) rfl ?_
                  refine xw_istore_n C d_Md_chosen_84 rfl (by decide) rfl (pc' := 85) rfl ?_
                  refine xw_iinc C 3 (v := nI (i + 1)) d_Md_chosen_85 rfl (xp_inc1 _) (by decide) rfl (pc' := 88) rfl ?_
                  refine xw_goto C (tgt := 4) d_Md_chosen_88 (by decide) ?_
                  refine xw_lv [3, 1, 0] rfl ?_
                  exact ih (n - (i + 1)) (by omega) (i + 1) _ rfl (by omega) (by rw [pl_pk_s0 hq (by omega)]; rfl)
                ·
                  replace h43 : ¬ (0 = 0) := fun hneg => h43 ((xp_eq0 (by omega)).mpr hneg)
                  omega
              ·
                replace h33 : ¬ ((wk i) ≤ hd) := fun hneg => h33 ((nI_leI (by omega) (by omega)).mpr hneg)
                refine xw_iconst C (v := nI 1) d_Md_chosen_36 (by decide) (pc' := 37) rfl ?_
                refine xw_goto C (tgt := 41) d_Md_chosen_37 (by decide) ?_
                refine xw_istore_n C d_Md_chosen_41 rfl (by decide) rfl (pc' := 42) rfl ?_
                refine xw_iload_n C 0 d_Md_chosen_42 rfl rfl (pc' := 43) rfl ?_
                refine xw_if_eq C (tgt := 83) d_Md_chosen_43 (by decide) (pc' := 46) rfl (fun h43 => ?_) (fun h43 => ?_)
                ·
                  replace h43 : 1 = 0 := (xp_eq0 (by omega)).mp h43
                  omega
                ·
                  replace h43 : ¬ (1 = 0) := fun hneg => h43 ((xp_eq0 (by omega)).mpr hneg)
                  refine xw_iload_n C 2 d_Md_chosen_46 rfl rfl (pc' := 47) rfl ?_
                  refine xw_if_lt C (tgt := 79) d_Md_chosen_47 (by decide) (pc' := 50) rfl (fun h47 => ?_) (fun h47 => ?_)
                  ·
                    replace h47 : b < 0 := (xp_lt0 (by omega)).mp h47
                    omega
                  ·
                    replace h47 : ¬ (b < 0) := fun hneg => h47 ((xp_lt0 (by omega)).mpr hneg)
                    refine xw_aload_n C 1 d_Md_chosen_50 rfl rfl (pc' := 51) rfl ?_
                    refine xw_get C u_Md 38 zr_38 rfl 16 (by decide) k_586 rfl rfl d_Md_chosen_51 (pc' := 54) rfl ?_
                    refine xw_iload_n C 3 d_Md_chosen_54 rfl rfl (pc' := 55) rfl ?_
                    refine xw_iald C 50 0 zr_50 rfl i rfl (by omega) (by decide) d_Md_chosen_55 (pc' := 56) rfl ?_
                    refine xw_topi (y := nI sn) hsn ?_
                    refine xw_aload_n C 1 d_Md_chosen_56 rfl rfl (pc' := 57) rfl ?_
                    refine xw_get C u_Md 38 zr_38 rfl 5 (by decide) k_575 rfl rfl d_Md_chosen_57 (pc' := 60) rfl ?_
                    refine xw_iload_n C 3 d_Md_chosen_60 rfl rfl (pc' := 61) rfl ?_
                    refine xw_iald C 41 0 zr_41 rfl i rfl (by omega) (by decide) d_Md_chosen_61 (pc' := 62) rfl ?_
                    refine xw_topi (y := nI (dl i)) (hT.2.2 _ (by omega)).2.2.1 ?_
                    refine xw_iadd C d_Md_chosen_62 (pc' := 63) rfl ?_
                    refine xw_topi (y := nI (sn + (dl i))) (nI_add _ _) ?_
                    refine xw_aload_n C 1 d_Md_chosen_63 rfl rfl (pc' := 64) rfl ?_
                    refine xw_get C u_Md 38 zr_38 rfl 16 (by decide) k_586 rfl rfl d_Md_chosen_64 (pc' := 67) rfl ?_
                    refine xw_iload_n C 2 d_Md_chosen_67 rfl rfl (pc' := 68) rfl ?_
                    refine xw_iald C 50 0 zr_50 rfl b rfl (by omega) (by decide) d_Md_chosen_68 (pc' := 69) rfl ?_
                    refine xw_topi (y := nI sb) hsb2 ?_
                    refine xw_aload_n C 1 d_Md_chosen_69 rfl rfl (pc' := 70) rfl ?_
                    refine xw_get C u_Md 38 zr_38 rfl 5 (by decide) k_575 rfl rfl d_Md_chosen_70 (pc' := 73) rfl ?_
                    refine xw_iload_n C 2 d_Md_chosen_73 rfl rfl (pc' := 74) rfl ?_
                    refine xw_iald C 41 0 zr_41 rfl b rfl (by omega) (by decide) d_Md_chosen_74 (pc' := 75) rfl ?_
                    refine xw_topi (y := nI (dl b)) htb.2.2.1 ?_
                    refine xw_iadd C d_Md_chosen_75 (pc' := 76) rfl ?_
                    refine xw_topi (y := nI (sb + (dl b))) (nI_add _ _) ?_
                    refine xw_icmp_ge C (tgt := 83) d_Md_chosen_76 (by decide) (pc' := 79) rfl (fun h76 => ?_) (fun h76 => ?_)
                    ·
                      replace h76 : (sb + (dl b)) ≤ (sn + (dl i)) := (nI_leI (by omega) (by omega)).mp h76
                      refine xw_iload_n C 2 d_Md_chosen_83 rfl rfl (pc' := 84) rfl ?_
                      refine xw_istore_n C d_Md_chosen_84 rfl (by decide) rfl (pc' := 85) rfl ?_
                      refine xw_iinc C 3 (v := nI (i + 1)) d_Md_chosen_85 rfl (xp_inc1 _) (by decide) rfl (pc' := 88) rfl ?_
                      refine xw_goto C (tgt := 4) d_Md_chosen_88 (by decide) ?_
                      refine xw_lv [3, 1, 0] rfl ?_
                      exact ih (n - (i + 1)) (by omega) (i + 1) _ rfl (by omega) (by rw [pl_pk_s0 hq (by omega)]; rfl)
                    ·
                      replace h76 : ¬ ((sb + (dl b)) ≤ (sn + (dl i))) := fun hneg => h76 ((nI_leI (by omega) (by omega)).mpr hneg)
                      refine xw_iload_n C 3 d_Md_chosen_79 rfl rfl (pc' := 80) rfl ?_
                      refine xw_goto C (tgt := 84) d_Md_chosen_80 (by decide) ?_
                      refine xw_istore_n C d_Md_chosen_84 rfl (by decide) rfl (pc' := 85) rfl ?_
                      refine xw_iinc C 3 (v := nI (i + 1)) d_Md_chosen_85 rfl (xp_inc1 _) (by decide) rfl (pc' := 88) rfl ?_
                      refine xw_goto C (tgt := 4) d_Md_chosen_88 (by decide) ?_
                      refine xw_lv [3, 1, 0] rfl ?_
                      exact ih (n - (i + 1)) (by omega) (i + 1) _ rfl (by omega) (by rw [pl_pk_s1 hq ⟨by omega, by omega⟩]; rfl)
  refine xw_lvE (lv' := [(0, .ref (ad 38))]) rfl ?_
  refine xw_iconst C (v := (-1)) d_Md_chosen_0 (by decide) (pc' := 1) rfl ?_
  refine xw_istore_n C d_Md_chosen_1 rfl (by decide) rfl (pc' := 2) rfl ?_
  refine xw_iconst C (v := nI 0) d_Md_chosen_2 (by decide) (pc' := 3) rfl ?_
  refine xw_istore_n C d_Md_chosen_3 rfl (by decide) rfl (pc' := 4) rfl ?_
  refine xw_lv [2, 1, 0] rfl ?_
  exact loop1 n 0 _ rfl (by omega) rfl

set_option maxHeartbeats 4000000 in
set_option maxRecDepth 100000 in
/-- imagine -/
theorem c_Md_imagine (l : Launch) (D : va_G) (ca : Nat → ClassId) (ad : Nat → Nat) (M : Nat → Nat → Int32) (n : Nat) (per wk dl of : Nat → Nat) (h : Nat) (hT : tmOK M n per wk dl of) (hh1 : 1 ≤ h) (hh : h ≤ 240) : xw_Mi l y_Md_imagine (.code y_Md_imagine b_Md_imagine 5 (some .boolean) :: zG) { frames := 1, cells := 0, slots := 0, locals := 23 } D zCl (zT ca) [.ref (ad 38), .int (nI (xs_mx of n)), .int (nI h)] (zW ca ad M) (fun _ => True) 0 0 (zW ca ad) (fun r M' => (∀ a b, a ≠ 49 → a ≠ 50 → a ≠ 51 → a ≠ 55 → M' a b = M a b) ∧ ((∀ u, u ≤ xs_mx of n + h + h → ¬ pl_miss n per wk dl of u) ∧ r = nI 1 ∧ (∀ u, xs_mx of n + h ≤ u → u < xs_mx of n + h + h → M' 55 (u % h) = oI (pl_who n per wk dl of u)) ∨ ¬ (∀ u, u ≤ xs_mx of n + h + h → ¬ pl_miss n per wk dl of u) ∧ r = nI 0)) := by
  intro sz
  refine xw_met (cc := b_Md_imagine) (maxL := 5) (ret := (some .boolean)) (by decide) rfl (Nat.le_of_ble_eq_true rfl) (fun p e s m args below meth c hr hlk hnm hsz hKs C => ?_)
  have hn6 := hT.1
  have hmx : xs_mx of n ≤ 48 := xs_mx_le (fun j hj => by have := hT.2.2 j (by omega); omega)
  have loopB : ∀ (d : Nat) (u : Nat) (M1 : Nat → Nat → Int32), xs_mx of n + h + h + 1 - u = d → u ≤ xs_mx of n + h + h + 1 → (∀ a b, a ≠ 49 → a ≠ 50 → a ≠ 51 → a ≠ 55 → M1 a b = M a b) → mlOK M1 n wk dl (pl_sim n per wk dl of u).1 (pl_sim n per wk dl of u).2 → (∀ x, x < u → ¬ pl_miss n per wk dl of x) → (∀ x, xs_mx of n + h ≤ x ∧ x < xs_mx of n + h + h → x < u → M1 55 (x % h) = oI (pl_who n per wk dl of x)) → XW p l e { frames := 1, cells := 0, slots := 0, locals := 23 } s m args below meth c D zCl (va_A (zW ca ad M) sz) s.heap 5 (zW ca ad M1) 0 0 (MQ below (va_Qi (fun r M' => (∀ a b, a ≠ 49 → a ≠ 50 → a ≠ 51 → a ≠ 55 → M' a b = M a b) ∧ ((∀ u, u ≤ xs_mx of n + h + h → ¬ pl_miss n per wk dl of u) ∧ r = nI 1 ∧ (∀ u, xs_mx of n + h ≤ u → u < xs_mx of n + h + h → M' 55 (u % h) = oI (pl_who n per wk dl of u)) ∨ ¬ (∀ u, u ≤ xs_mx of n + h + h → ¬ pl_miss n per wk dl of u) ∧ r = nI 0)) (xw_B D zCl (zT ca) (va_A (zW ca ad M) sz) (zW ca ad)) (va_A (zW ca ad M) sz)) args s 0 0 (va_A (zW ca ad M) sz)) 25 [(0, .ref (ad 38)), (1, .int (nI (xs_mx of n))), (2, .int (nI h)), (3, .int (nI u))] [] := by
    intro d
    induction d using Nat.strongRecOn with
    | _ d ih =>
      intro u M1 hd hi hf1 hL1 hms1 hgo1
      have hT1 : tmOK M1 n per wk dl of := hT.keep (hf1 _ _ (by decide) (by decide) (by decide) (by decide)) (fun a j h1 h2 => hf1 _ _ (by omega) (by omega) (by omega) (by omega))
      obtain ⟨w1, hw1⟩ : ∃ zq, zq = pl_w1 of per wk u (pl_sim n per wk dl of u).1 := ⟨_, rfl⟩
      obtain ⟨e1, he1⟩ : ∃ zq, zq = pl_e1 of per dl u (pl_sim n per wk dl of u).2 := ⟨_, rfl⟩
      have hsim : pl_sim n per wk dl of (u + 1) = (pl_w2 w1 (pl_pk w1 e1 n), e1) := by rw [hw1, he1]; rfl
      have hwho : pl_who n per wk dl of u = pl_pk w1 e1 n := by rw [hw1, he1]; rfl
      refine xw_iload_n C 3 d_Md_imagine_25 rfl rfl (pc' := 26) rfl ?_
      refine xw_iload_n C 1 d_Md_imagine_26 rfl rfl (pc' := 27) rfl ?_
      refine xw_iconst C (v := nI 2) d_Md_imagine_27 (by decide) (pc' := 28) rfl ?_
      refine xw_iload_n C 2 d_Md_imagine_28 rfl rfl (pc' := 29) rfl ?_
      refine xw_imul C d_Md_imagine_29 (pc' := 30) rfl ?_
      refine xw_topi (y := nI (2 * h)) (pk_mul _ _) ?_
      refine xw_iadd C d_Md_imagine_30 (pc' := 31) rfl ?_
      refine xw_topi (y := nI ((xs_mx of n) + (2 * h))) (nI_add _ _) ?_
      refine xw_icmp_gt C (tgt := 188) d_Md_imagine_31 (by decide) (pc' := 34) rfl (fun h31 => ?_) (fun h31 => ?_)
      ·
        replace h31 : ((xs_mx of n) + (2 * h)) < u := (nI_ltI (by omega) (by omega)).mp h31
        refine xw_iconst C (v := nI 1) d_Md_imagine_188 (by decide) (pc' := 189) rfl ?_
        refine xw_zret C hr hlk xp_n1 (F := zW ca ad) M1 rfl ?_ d_Md_imagine_189
        exact ⟨hf1, Or.inl ⟨fun x hx => hms1 x (by omega), rfl, fun x h1 h2 => hgo1 x ⟨h1, h2⟩ (by omega)⟩⟩
      ·
        replace h31 : ¬ (((xs_mx of n) + (2 * h)) < u) := fun hneg => h31 ((nI_ltI (by omega) (by omega)).mpr hneg)
        refine xw_iconst C (v := nI 0) d_Md_imagine_34 (by decide) (pc' := 35) rfl ?_
        refine xw_istore C d_Md_imagine_35 (by decide) rfl (pc' := 37) rfl ?_
        refine xw_lv [1, 2, 3, 4, 0] rfl ?_
        have loopC : ∀ (d2 : Nat) (t : Nat) (M2 : Nat → Nat → Int32), n - t = d2 → t ≤ n → (∀ a b, a ≠ 49 → a ≠ 50 → a ≠ 51 → a ≠ 55 → M2 a b = M a b) → (∀ b, M2 55 b = M1 55 b) → (∀ x, x < n → ml1 M2 x (wk x) (dl x) (if x < t then w1 x else (pl_sim n per wk dl of u).1 x) (if x < t then e1 x else (pl_sim n per wk dl of u).2 x)) → (∀ x, x < t → ¬ (0 < (pl_sim n per wk dl of u).1 x ∧ (pl_sim n per wk dl of u).2 x ≤ u)) → XW p l e { frames := 1, cells := 0, slots := 0, locals := 23 } s m args below meth c D zCl (va_A (zW ca ad M) sz) s.heap 5 (zW ca ad M2) 0 0 (MQ below (va_Qi (fun r M' => (∀ a b, a ≠ 49 → a ≠ 50 → a ≠ 51 → a ≠ 55 → M' a b = M a b) ∧ ((∀ u, u ≤ xs_mx of n + h + h → ¬ pl_miss n per wk dl of u) ∧ r = nI 1 ∧ (∀ u, xs_mx of n + h ≤ u → u < xs_mx of n + h + h → M' 55 (u % h) = oI (pl_who n per wk dl of u)) ∨ ¬ (∀ u, u ≤ xs_mx of n + h + h → ¬ pl_miss n per wk dl of u) ∧ r = nI 0)) (xw_B D zCl (zT ca) (va_A (zW ca ad M) sz) (zW ca ad)) (va_A (zW ca ad M) sz)) args s 0 0 (va_A (zW ca ad M) sz)) 37 [(0, .ref (ad 38)), (1, .int (nI (xs_mx of n))), (2, .int (nI h)), (3, .int (nI u)), (4, .int (nI t))] [] := by
          intro d2
          induction d2 using Nat.strongRecOn with
          | _ d2 ih2 =>
            intro t M2 hd2 ht2 hf2 hg2 hL2 hmC
            have hT2 : tmOK M2 n per wk dl of := hT.keep (hf2 _ _ (by decide) (by decide) (by decide) (by decide)) (fun a j h1 h2 => hf2 _ _ (by omega) (by omega) (by omega) (by omega))
            refine xw_iload C 4 d_Md_imagine_37 rfl (pc' := 39) rfl ?_
            refine xw_aload_n C 0 d_Md_imagine_39 rfl rfl (pc' := 40) rfl ?_
            refine xw_get C u_Md 38 zr_38 rfl 2 (by decide) k_572 rfl rfl d_Md_imagine_40 (pc' := 43) rfl ?_
            refine xw_topi (y := nI n) hT2.2.1 ?_
            refine xw_icmp_ge C (tgt := 134) d_Md_imagine_43 (by decide) (pc' := 46) rfl (fun h43 => ?_) (fun h43 => ?_)
            ·
              replace h43 : n ≤ t := (nI_leI (by omega) (by omega)).mp h43
              have htn : t = n := by omega
              have hL3 : mlOK M2 n wk dl w1 e1 := fun x hx => by have q := hL2 x hx; rw [if_pos (by omega), if_pos (by omega)] at q; exact q
              refine xw_aload_n C 0 d_Md_imagine_134 rfl rfl (pc' := 135) rfl ?_
              refine xw_callVi C (c_Md_chosen l D ca ad M2 n per wk dl of w1 e1 hT2 hL3) ⟨zg_B C 0 k_686 k_31 k_689 q_Md_chosen ⟨by decide, by decide⟩, C.2.2.2.2.1 _ k_688, C.2.2.2.2.1 _ k_15⟩ 38 zr_38 rfl rfl (fun _ _ _ _ h => h) (fun _ _ _ _ _ _ _ => trivial) rfl rfl (Nat.le_of_ble_eq_true rfl) d_Md_imagine_135 ⟨by decide, by decide⟩ (pc' := 138) rfl (fun r201 M202 hp203 => ?_)
              obtain ⟨hme, hre⟩ := hp203
              rw [hme, hre]
              clear hme hre
              rcases hk : pl_pk w1 e1 n with _ | b
              ·
                refine xw_topi (y := -1) rfl ?_
                refine xw_istore C d_Md_imagine_138 (by decide) rfl (pc' := 140) rfl ?_
                refine xw_iload C 0 d_Md_imagine_140 rfl (pc' := 142) rfl ?_
                refine xw_if_lt C (tgt := 156) d_Md_imagine_142 (by decide) (pc' := 145) rfl (fun h142 => ?_) (fun h142 => ?_)
                ·
                  have hL4 : mlOK M2 n wk dl (pl_w2 w1 (pl_pk w1 e1 n)) e1 := fun x hx => by rw [hk]; unfold pl_w2; rw [if_neg (fun q => by cases q)]; exact hL3 x hx
                  have hf4 := hf2
                  have hg4 := hg2
                  refine xw_iload_n C 4 d_Md_imagine_156 rfl rfl (pc' := 157) rfl ?_
                  refine xw_iload_n C 2 d_Md_imagine_157 rfl rfl (pc' := 158) rfl ?_
                  refine xw_iload_n C 3 d_Md_imagine_158 rfl rfl (pc' := 159) rfl ?_
                  refine xw_iadd C d_Md_imagine_159 (pc' := 160) rfl ?_
                  refine xw_topi (y := nI ((xs_mx of n) + h)) (nI_add _ _) ?_
                  refine xw_icmp_lt C (tgt := 182) d_Md_imagine_160 (by decide) (pc' := 163) rfl (fun h160 => ?_) (fun h160 => ?_)
                  ·
                    replace h160 : u < ((xs_mx of n) + h) := (nI_ltI (by omega) (by omega)).mp h160
                    have hL5 := hL4
                    have hf5 := hf4
                    have hw5 : ∀ x, xs_mx of n + h ≤ x ∧ x < xs_mx of n + h + h → x < u + 1 → M2 55 (x % h) = oI (pl_who n per wk dl of x) := fun x h1 h3 => by rw [hg4]; exact hgo1 x h1 (by omega)
                    refine xw_iinc C 4 (v := nI (u + 1)) d_Md_imagine_182 rfl (xp_inc1 _) (by decide) rfl (pc' := 185) rfl ?_
                    refine xw_goto C (tgt := 25) d_Md_imagine_185 (by decide) ?_
                    refine xw_lv [2, 3, 4, 0] rfl ?_
                    refine ih (xs_mx of n + h + h + 1 - (u + 1)) (by omega) (u + 1) M2 rfl (by omega) hf5 (by rw [hsim]; exact hL5) (fun x hx => ?_) hw5
                    rcases Nat.lt_or_ge x u with c9 | c9
                    · exact hms1 x c9
                    · rw [show x = u by omega]
                      rintro ⟨t9, q1, q2, q3⟩
                      exact hmC t9 (by omega) ⟨q2, q3⟩
                  ·
                    replace h160 : ¬ (u < ((xs_mx of n) + h)) := fun hneg => h160 ((nI_ltI (by omega) (by omega)).mpr hneg)
                    refine xw_iload_n C 4 d_Md_imagine_163 rfl rfl (pc' := 164) rfl ?_
                    refine xw_iload_n C 2 d_Md_imagine_164 rfl rfl (pc' := 165) rfl ?_
                    refine xw_iconst C (v := nI 2) d_Md_imagine_165 (by decide) (pc' := 166) rfl ?_
                    refine xw_iload_n C 3 d_Md_imagine_166 rfl rfl (pc' := 167) rfl ?_
                    refine xw_imul C d_Md_imagine_167 (pc' := 168) rfl ?_
                    refine xw_topi (y := nI (2 * h)) (pk_mul _ _) ?_
                    refine xw_iadd C d_Md_imagine_168 (pc' := 169) rfl ?_
                    refine xw_topi (y := nI ((xs_mx of n) + (2 * h))) (nI_add _ _) ?_
                    refine xw_icmp_ge C (tgt := 182) d_Md_imagine_169 (by decide) (pc' := 172) rfl (fun h169 => ?_) (fun h169 => ?_)
                    ·
                      replace h169 : ((xs_mx of n) + (2 * h)) ≤ u := (nI_leI (by omega) (by omega)).mp h169
                      have hL5 := hL4
                      have hf5 := hf4
                      have hw5 : ∀ x, xs_mx of n + h ≤ x ∧ x < xs_mx of n + h + h → x < u + 1 → M2 55 (x % h) = oI (pl_who n per wk dl of x) := fun x h1 h3 => by rw [hg4]; exact hgo1 x h1 (by omega)
                      refine xw_iinc C 4 (v := nI (u + 1)) d_Md_imagine_182 rfl (xp_inc1 _) (by decide) rfl (pc' := 185) rfl ?_
                      refine xw_goto C (tgt := 25) d_Md_imagine_185 (by decide) ?_
                      refine xw_lv [2, 3, 4, 0] rfl ?_
                      refine ih (xs_mx of n + h + h + 1 - (u + 1)) (by omega) (u + 1) M2 rfl (by omega) hf5 (by rw [hsim]; exact hL5) (fun x hx => ?_) hw5
                      rcases Nat.lt_or_ge x u with c9 | c9
                      · exact hms1 x c9
                      · rw [show x = u by omega]
                        rintro ⟨t9, q1, q2, q3⟩
                        exact hmC t9 (by omega) ⟨q2, q3⟩
                    ·
                      replace h169 : ¬ (((xs_mx of n) + (2 * h)) ≤ u) := fun hneg => h169 ((nI_leI (by omega) (by omega)).mpr hneg)
                      refine xw_aload_n C 1 d_Md_imagine_172 rfl rfl (pc' := 173) rfl ?_
                      refine xw_get C u_Md 38 zr_38 rfl 21 (by decide) k_591 rfl rfl d_Md_imagine_173 (pc' := 176) rfl ?_
                      refine xw_iload_n C 4 d_Md_imagine_176 rfl rfl (pc' := 177) rfl ?_
                      refine xw_iload_n C 3 d_Md_imagine_177 rfl rfl (pc' := 178) rfl ?_
                      refine xw_irem C d_Md_imagine_178 (nI_ne0 (by omega) (by omega)) (pc' := 179) rfl ?_
                      refine xw_topi (y := nI (u % h)) (pk_rem (by omega) (by omega) (by omega)) ?_
                      have hm178 : u % h < h := Nat.mod_lt _ (by omega)
                      refine xw_iload C 0 d_Md_imagine_179 rfl (pc' := 181) rfl ?_
                      obtain ⟨M204, hM204⟩ : ∃ zq, zq = zst M2 55 (u % h) (-1) := ⟨_, rfl⟩
                      refine xw_iast C 55 0 zr_55 rfl (u % h) rfl (by omega) (by decide) (ws' := zW ca ad M204) (by rw [hM204]; exact zs_55 _ _) d_Md_imagine_181 (pc' := 182) rfl ?_
                      have hL5 : mlOK M204 n wk dl (pl_w2 w1 (pl_pk w1 e1 n)) e1 := fun x hx => (hL4 x hx).keep (by rw [hM204, zst_ap, if_neg (by omega)]) (by rw [hM204, zst_ap, if_neg (by omega)]) (by rw [hM204, zst_ap, if_neg (by omega)])
                      have hf5 : ∀ a b, a ≠ 49 → a ≠ 50 → a ≠ 51 → a ≠ 55 → M204 a b = M a b := fun a b h1 h2 h3 h4 => by rw [hM204, zst_ap, if_neg (fun q => h4 q.1)]; exact hf4 a b h1 h2 h3 h4
                      have hw5 : ∀ x, xs_mx of n + h ≤ x ∧ x < xs_mx of n + h + h → x < u + 1 → M204 55 (x % h) = oI (pl_who n per wk dl of x) := fun x h1 h3 => by
                        rw [hM204, zst_ap]
                        by_cases d9 : x = u
                        · subst d9; rw [if_pos ⟨rfl, rfl⟩, hwho, hk]; rfl
                        · rw [if_neg (fun q : 55 = 55 ∧ x % h = u % h => d9 (xp_modinj (a := xs_mx of n + h) (by omega) (by omega) (by omega) q.2)), hg4]; exact hgo1 x h1 (by omega)
                      refine xw_iinc C 4 (v := nI (u + 1)) d_Md_imagine_182 rfl (xp_inc1 _) (by decide) rfl (pc' := 185) rfl ?_
                      refine xw_goto C (tgt := 25) d_Md_imagine_185 (by decide) ?_
                      refine xw_lv [2, 3, 4, 0] rfl ?_
                      refine ih (xs_mx of n + h + h + 1 - (u + 1)) (by omega) (u + 1) M204 rfl (by omega) hf5 (by rw [hsim]; exact hL5) (fun x hx => ?_) hw5
                      rcases Nat.lt_or_ge x u with c9 | c9
                      · exact hms1 x c9
                      · rw [show x = u by omega]
                        rintro ⟨t9, q1, q2, q3⟩
                        exact hmC t9 (by omega) ⟨q2, q3⟩
                ·
                  exact absurd (by decide) h142
              ·
                refine xw_topi (y := nI b) rfl ?_
                have hkb := pl_pk_lt hk
                obtain ⟨hlb, hdb, sb, hhb2, hsb2, hle2, hwe2, hee2, hsbb⟩ := (hL3 b (by omega)).live hkb.2
                refine xw_istore C d_Md_imagine_138 (by decide) rfl (pc' := 140) rfl ?_
                refine xw_iload C 0 d_Md_imagine_140 rfl (pc' := 142) rfl ?_
                refine xw_if_lt C (tgt := 156) d_Md_imagine_142 (by decide) (pc' := 145) rfl (fun h142 => ?_) (fun h142 => ?_)
                ·
                  replace h142 : b < 0 := (xp_lt0 (by omega)).mp h142
                  omega
                ·
                  replace h142 : ¬ (b < 0) := fun hneg => h142 ((xp_lt0 (by omega)).mpr hneg)
                  refine xw_aload_n C 1 d_Md_imagine_145 rfl rfl (pc' := 146) rfl ?_
                  refine xw_get C u_Md 38 zr_38 rfl 17 (by decide) k_587 rfl rfl d_Md_imagine_146 (pc' := 149) rfl ?_
                  refine xw_iload C 0 d_Md_imagine_149 rfl (pc' := 151) rfl ?_
                  refine xw_dup2_11 C d_Md_imagine_151 rfl rfl (pc' := 152) rfl ?_
                  refine xw_iald C 51 0 zr_51 rfl b rfl (by omega) (by decide) d_Md_imagine_152 (pc' := 153) rfl ?_
                  
                  refine xw_topi (y := nI hdb) hhb2 ?_
                  refine xw_iconst C (v := nI 1) d_Md_imagine_153 (by decide) (pc' := 154) rfl ?_
                  refine xw_iadd C d_Md_imagine_154 (pc' := 155) rfl ?_
                  refine xw_topi (y := nI (hdb + 1)) (nI_add _ _) ?_
                  obtain ⟨M205, hM205⟩ : ∃ zq, zq = zst M2 51 b (nI (hdb + 1)) := ⟨_, rfl⟩
                  refine xw_iast C 51 0 zr_51 rfl b rfl (by omega) (by decide) (ws' := zW ca ad M205) (by rw [hM205]; exact zs_51 _ _) d_Md_imagine_155 (pc' := 156) rfl ?_
                  have hL4 : mlOK M205 n wk dl (pl_w2 w1 (pl_pk w1 e1 n)) e1 := fun x hx => by
                    rw [hk]
                    unfold pl_w2
                    by_cases c9 : x = b
                    · subst c9
                      rw [if_pos rfl]
                      exact Or.inr ⟨by rw [hM205, zst_ap, if_neg (by omega)]; exact hlb, hdb + 1, sb, by rw [hM205, zst_ap, if_pos ⟨rfl, rfl⟩], by rw [hM205, zst_ap, if_neg (by omega)]; exact hsb2, by omega, by omega, hee2, hsbb⟩
                    · rw [if_neg (fun q => c9 (Option.some.inj q).symm)]
                      exact (hL3 x hx).keep (by rw [hM205, zst_ap, if_neg (by omega)]) (by rw [hM205, zst_ap, if_neg (by omega)]) (by rw [hM205, zst_ap, if_neg (by omega)])
                  have hf4 : ∀ a b, a ≠ 49 → a ≠ 50 → a ≠ 51 → a ≠ 55 → M205 a b = M a b := fun a b h1 h2 h3 h4 => by rw [hM205, zst_ap, if_neg (fun q => h3 q.1)]; exact hf2 a b h1 h2 h3 h4
                  have hg4 : ∀ b, M205 55 b = M1 55 b := fun b => by rw [hM205, zst_ap, if_neg (by omega)]; exact hg2 b
                  refine xw_iload_n C 4 d_Md_imagine_156 rfl rfl (pc' := 157) rfl ?_
                  refine xw_iload_n C 2 d_Md_imagine_157 rfl rfl (pc' := 158) rfl ?_
                  refine xw_iload_n C 3 d_Md_imagine_158 rfl rfl (pc' := 159) rfl ?_
                  refine xw_iadd C d_Md_imagine_159 (pc' := 160) rfl ?_
                  refine xw_topi (y := nI ((xs_mx of n) + h)) (nI_add _ _) ?_
                  refine xw_icmp_lt C (tgt := 182) d_Md_imagine_160 (by decide) (pc' := 163) rfl (fun h160 => ?_) (fun h160 => ?_)
                  ·
                    replace h160 : u < ((xs_mx of n) + h) := (nI_ltI (by omega) (by omega)).mp h160
                    have hL5 := hL4
                    have hf5 := hf4
                    have hw5 : ∀ x, xs_mx of n + h ≤ x ∧ x < xs_mx of n + h + h → x < u + 1 → M205 55 (x % h) = oI (pl_who n per wk dl of x) := fun x h1 h3 => by rw [hg4]; exact hgo1 x h1 (by omega)
                    refine xw_iinc C 4 (v := nI (u + 1)) d_Md_imagine_182 rfl (xp_inc1 _) (by decide) rfl (pc' := 185) rfl ?_
                    refine xw_goto C (tgt := 25) d_Md_imagine_185 (by decide) ?_
                    refine xw_lv [2, 3, 4, 0] rfl ?_
                    refine ih (xs_mx of n + h + h + 1 - (u + 1)) (by omega) (u + 1) M205 rfl (by omega) hf5 (by rw [hsim]; exact hL5) (fun x hx => ?_) hw5
                    rcases Nat.lt_or_ge x u with c9 | c9
                    · exact hms1 x c9
                    · rw [show x = u by omega]
                      rintro ⟨t9, q1, q2, q3⟩
                      exact hmC t9 (by omega) ⟨q2, q3⟩
                  ·
                    replace h160 : ¬ (u < ((xs_mx of n) + h)) := fun hneg => h160 ((nI_ltI (by omega) (by omega)).mpr hneg)
                    refine xw_iload_n C 4 d_Md_imagine_163 rfl rfl (pc' := 164) rfl ?_
                    refine xw_iload_n C 2 d_Md_imagine_164 rfl rfl (pc' := 165) rfl ?_
                    refine xw_iconst C (v := nI 2) d_Md_imagine_165 (by decide) (pc' := 166) rfl ?_
                    refine xw_iload_n C 3 d_Md_imagine_166 rfl rfl (pc' := 167) rfl ?_
                    refine xw_imul C d_Md_imagine_167 (pc' := 168) rfl ?_
                    refine xw_topi (y := nI (2 * h)) (pk_mul _ _) ?_
                    refine xw_iadd C d_Md_imagine_168 (pc' := 169) rfl ?_
                    refine xw_topi (y := nI ((xs_mx of n) + (2 * h))) (nI_add _ _) ?_
                    refine xw_icmp_ge C (tgt := 182) d_Md_imagine_169 (by decide) (pc' := 172) rfl (fun h169 => ?_) (fun h169 => ?_)
                    ·
                      replace h169 : ((xs_mx of n) + (2 * h)) ≤ u := (nI_leI (by omega) (by omega)).mp h169
                      have hL5 := hL4
                      have hf5 := hf4
                      have hw5 : ∀ x, xs_mx of n + h ≤ x ∧ x < xs_mx of n + h + h → x < u + 1 → M205 55 (x % h) = oI (pl_who n per wk dl of x) := fun x h1 h3 => by rw [hg4]; exact hgo1 x h1 (by omega)
                      refine xw_iinc C 4 (v := nI (u + 1)) d_Md_imagine_182 rfl (xp_inc1 _) (by decide) rfl (pc' := 185) rfl ?_
                      refine xw_goto C (tgt := 25) d_Md_imagine_185 (by decide) ?_
                      refine xw_lv [2, 3, 4, 0] rfl ?_
                      refine ih (xs_mx of n + h + h + 1 - (u + 1)) (by omega) (u + 1) M205 rfl (by omega) hf5 (by rw [hsim]; exact hL5) (fun x hx => ?_) hw5
                      rcases Nat.lt_or_ge x u with c9 | c9
                      · exact hms1 x c9
                      · rw [show x = u by omega]
                        rintro ⟨t9, q1, q2, q3⟩
                        exact hmC t9 (by omega) ⟨q2, q3⟩
                    ·
                      replace h169 : ¬ (((xs_mx of n) + (2 * h)) ≤ u) := fun hneg => h169 ((nI_leI (by omega) (by omega)).mpr hneg)
                      refine xw_aload_n C 1 d_Md_imagine_172 rfl rfl (pc' := 173) rfl ?_
                      refine xw_get C u_Md 38 zr_38 rfl 21 (by decide) k_591 rfl rfl d_Md_imagine_173 (pc' := 176) rfl ?_
                      refine xw_iload_n C 4 d_Md_imagine_176 rfl rfl (pc' := 177) rfl ?_
                      refine xw_iload_n C 3 d_Md_imagine_177 rfl rfl (pc' := 178) rfl ?_
                      refine xw_irem C d_Md_imagine_178 (nI_ne0 (by omega) (by omega)) (pc' := 179) rfl ?_
                      refine xw_topi (y := nI (u % h)) (pk_rem (by omega) (by omega) (by omega)) ?_
                      have hm178 : u % h < h := Nat.mod_lt _ (by omega)
                      refine xw_iload C 0 d_Md_imagine_179 rfl (pc' := 181) rfl ?_
                      obtain ⟨M206, hM206⟩ : ∃ zq, zq = zst M205 55 (u % h) (nI b) := ⟨_, rfl⟩
                      refine xw_iast C 55 0 zr_55 rfl (u % h) rfl (by omega) (by decide) (ws' := zW ca ad M206) (by rw [hM206]; exact zs_55 _ _) d_Md_imagine_181 (pc' := 182) rfl ?_
                      have hL5 : mlOK M206 n wk dl (pl_w2 w1 (pl_pk w1 e1 n)) e1 := fun x hx => (hL4 x hx).keep (by rw [hM206, zst_ap, if_neg (by omega)]) (by rw [hM206, zst_ap, if_neg (by omega)]) (by rw [hM206, zst_ap, if_neg (by omega)])
                      have hf5 : ∀ a b, a ≠ 49 → a ≠ 50 → a ≠ 51 → a ≠ 55 → M206 a b = M a b := fun a b h1 h2 h3 h4 => by rw [hM206, zst_ap, if_neg (fun q => h4 q.1)]; exact hf4 a b h1 h2 h3 h4
                      have hw5 : ∀ x, xs_mx of n + h ≤ x ∧ x < xs_mx of n + h + h → x < u + 1 → M206 55 (x % h) = oI (pl_who n per wk dl of x) := fun x h1 h3 => by
                        rw [hM206, zst_ap]
                        by_cases d9 : x = u
                        · subst d9; rw [if_pos ⟨rfl, rfl⟩, hwho, hk]; rfl
                        · rw [if_neg (fun q : 55 = 55 ∧ x % h = u % h => d9 (xp_modinj (a := xs_mx of n + h) (by omega) (by omega) (by omega) q.2)), hg4]; exact hgo1 x h1 (by omega)
                      refine xw_iinc C 4 (v := nI (u + 1)) d_Md_imagine_182 rfl (xp_inc1 _) (by decide) rfl (pc' := 185) rfl ?_
                      refine xw_goto C (tgt := 25) d_Md_imagine_185 (by decide) ?_
                      refine xw_lv [2, 3, 4, 0] rfl ?_
                      refine ih (xs_mx of n + h + h + 1 - (u + 1)) (by omega) (u + 1) M206 rfl (by omega) hf5 (by rw [hsim]; exact hL5) (fun x hx => ?_) hw5
                      rcases Nat.lt_or_ge x u with c9 | c9
                      · exact hms1 x c9
                      · rw [show x = u by omega]
                        rintro ⟨t9, q1, q2, q3⟩
                        exact hmC t9 (by omega) ⟨q2, q3⟩
            ·
              replace h43 : ¬ (n ≤ t) := fun hneg => h43 ((nI_leI (by omega) (by omega)).mpr hneg)
              refine xw_aload_n C 0 d_Md_imagine_46 rfl rfl (pc' := 47) rfl ?_
              refine xw_get C u_Md 38 zr_38 rfl 15 (by decide) k_585 rfl rfl d_Md_imagine_47 (pc' := 50) rfl ?_
              refine xw_iload C 4 d_Md_imagine_50 rfl (pc' := 52) rfl ?_
              refine xw_zald C 49 2 zr_49 rfl t rfl (by omega) (by decide) d_Md_imagine_52 (pc' := 53) rfl ?_
              have hti := hT.2.2 t (by omega)
              have hLt := hL2 t (by omega)
              rw [if_neg (Nat.lt_irrefl t), if_neg (Nat.lt_irrefl t)] at hLt
              rcases hLt with ⟨hlv, hw0⟩ | ⟨hlv, hd, sn, hhd, hsn, hle, hwe, hee, hsb⟩
              ·
                refine xw_topi (y := nI 0) hlv ?_
                refine xw_if_eq C (tgt := 94) d_Md_imagine_53 (by decide) (pc' := 56) rfl (fun h53 => ?_) (fun h53 => ?_)
                ·
                  replace h53 : 0 = 0 := (xp_eq0 (by omega)).mp h53
                  have hnm : ¬ (0 < (pl_sim n per wk dl of u).1 t ∧ (pl_sim n per wk dl of u).2 t ≤ u) := by omega
                  refine xw_aload_n C 0 d_Md_imagine_94 rfl rfl (pc' := 95) rfl ?_
                  refine xw_iload C 4 d_Md_imagine_95 rfl (pc' := 97) rfl ?_
                  refine xw_iload_n C 3 d_Md_imagine_97 rfl rfl (pc' := 98) rfl ?_
                  refine xw_callVi C (c_Md_isReleased l D ca ad M2 n per wk dl of t u hT2 (by omega) (by omega)) ⟨zg_B C 2 k_682 k_31 k_685 q_Md_isReleased ⟨by decide, by decide⟩, C.2.2.2.2.1 _ k_684, C.2.2.2.2.1 _ k_14⟩ 38 zr_38 rfl rfl (fun _ _ _ _ h => h) (fun _ _ _ _ _ _ _ => trivial) rfl rfl (Nat.le_of_ble_eq_true rfl) d_Md_imagine_98 ⟨by decide, by decide⟩ (pc' := 101) rfl (fun r207 M208 hp209 => ?_)
                  obtain ⟨hme, hp209⟩ := hp209
                  rw [hme]
                  clear hme
                  rcases hp209 with ⟨hrl, rfl⟩ | ⟨hrl, rfl⟩
                  ·
                    refine xw_if_eq C (tgt := 128) d_Md_imagine_101 (by decide) (pc' := 104) rfl (fun h101 => ?_) (fun h101 => ?_)
                    ·
                      replace h101 : 1 = 0 := (xp_eq0 (by omega)).mp h101
                      omega
                    ·
                      replace h101 : ¬ (1 = 0) := fun hneg => h101 ((xp_eq0 (by omega)).mpr hneg)
                      refine xw_aload_n C 0 d_Md_imagine_104 rfl rfl (pc' := 105) rfl ?_
                      refine xw_get C u_Md 38 zr_38 rfl 15 (by decide) k_585 rfl rfl d_Md_imagine_105 (pc' := 108) rfl ?_
                      refine xw_iload C 4 d_Md_imagine_108 rfl (pc' := 110) rfl ?_
                      refine xw_iconst C (v := nI 1) d_Md_imagine_110 (by decide) (pc' := 111) rfl ?_
                      obtain ⟨M210, hM210⟩ : ∃ zq, zq = zst M2 49 t (nI 1) := ⟨_, rfl⟩
                      refine xw_zast C 49 2 zr_49 rfl t rfl (by omega) (by decide) (ws' := zW ca ad M210) (by rw [hM210, xp_v1]; exact zs_49 _ _) d_Md_imagine_111 (pc' := 112) rfl ?_
                      refine xw_aload_n C 0 d_Md_imagine_112 rfl rfl (pc' := 113) rfl ?_
                      refine xw_get C u_Md 38 zr_38 rfl 16 (by decide) k_586 rfl rfl d_Md_imagine_113 (pc' := 116) rfl ?_
                      refine xw_iload C 4 d_Md_imagine_116 rfl (pc' := 118) rfl ?_
                      refine xw_iload_n C 3 d_Md_imagine_118 rfl rfl (pc' := 119) rfl ?_
                      obtain ⟨M211, hM211⟩ : ∃ zq, zq = zst M210 50 t (nI u) := ⟨_, rfl⟩
                      refine xw_iast C 50 0 zr_50 rfl t rfl (by omega) (by decide) (ws' := zW ca ad M211) (by rw [hM211]; exact zs_50 _ _) d_Md_imagine_119 (pc' := 120) rfl ?_
                      refine xw_aload_n C 0 d_Md_imagine_120 rfl rfl (pc' := 121) rfl ?_
                      refine xw_get C u_Md 38 zr_38 rfl 17 (by decide) k_587 rfl rfl d_Md_imagine_121 (pc' := 124) rfl ?_
                      refine xw_iload C 4 d_Md_imagine_124 rfl (pc' := 126) rfl ?_
                      refine xw_iconst C (v := nI 0) d_Md_imagine_126 (by decide) (pc' := 127) rfl ?_
                      obtain ⟨M212, hM212⟩ : ∃ zq, zq = zst M211 51 t (nI 0) := ⟨_, rfl⟩
                      refine xw_iast C 51 0 zr_51 rfl t rfl (by omega) (by decide) (ws' := zW ca ad M212) (by rw [hM212]; exact zs_51 _ _) d_Md_imagine_127 (pc' := 128) rfl ?_
                      refine xw_iinc C 4 (v := nI (t + 1)) d_Md_imagine_128 rfl (xp_inc1 _) (by decide) rfl (pc' := 131) rfl ?_
                      refine xw_goto C (tgt := 37) d_Md_imagine_131 (by decide) ?_
                      refine xw_lv [1, 2, 3, 4, 0] rfl ?_
                      have k49 : ∀ x, x ≠ t → M212 49 x = M2 49 x := fun x hx => by rw [hM212, zst_ap, if_neg (by omega), hM211, zst_ap, if_neg (by omega), hM210, zst_ap, if_neg (by omega)]
                      have k50 : ∀ x, x ≠ t → M212 50 x = M2 50 x := fun x hx => by rw [hM212, zst_ap, if_neg (by omega), hM211, zst_ap, if_neg (by omega), hM210, zst_ap, if_neg (by omega)]
                      have k51 : ∀ x, x ≠ t → M212 51 x = M2 51 x := fun x hx => by rw [hM212, zst_ap, if_neg (by omega), hM211, zst_ap, if_neg (by omega), hM210, zst_ap, if_neg (by omega)]
                      refine ih2 (n - (t + 1)) (by omega) (t + 1) M212 rfl (by omega) (fun a b h1 h2 h3 h4 => by rw [hM212, zst_ap, if_neg (fun q => h3 q.1), hM211, zst_ap, if_neg (fun q => h2 q.1), hM210, zst_ap, if_neg (fun q => h1 q.1)]; exact hf2 a b h1 h2 h3 h4) (fun b => by rw [hM212, zst_ap, if_neg (by omega), hM211, zst_ap, if_neg (by omega), hM210, zst_ap, if_neg (by omega)]; exact hg2 b) (fun x hx => ?_) (fun x hx => by
                        rcases Nat.lt_or_ge x t with c9 | c9
                        · exact hmC x c9
                        · rw [show x = t by omega]; exact hnm)
                      have q := hL2 x hx
                      by_cases c9 : x = t
                      · subst c9
                        rw [if_pos (by omega), if_pos (by omega), hw1, he1]
                        unfold pl_w1 pl_e1
                        rw [if_pos hrl, if_pos hrl]
                        refine Or.inr ⟨by rw [hM212, zst_ap, if_neg (by omega), hM211, zst_ap, if_neg (by omega), hM210, zst_ap, if_pos ⟨rfl, rfl⟩], 0, u, by rw [hM212, zst_ap, if_pos ⟨rfl, rfl⟩], by rw [hM212, zst_ap, if_neg (by omega), hM211, zst_ap, if_pos ⟨rfl, rfl⟩], by omega, by omega, rfl, by omega⟩
                      · by_cases c8 : x < t
                        · rw [if_pos c8, if_pos c8] at q; rw [if_pos (by omega), if_pos (by omega)]; exact q.keep (k49 x c9) (k50 x c9) (k51 x c9)
                        · rw [if_neg c8, if_neg c8] at q; rw [if_neg (by omega), if_neg (by omega)]; exact q.keep (k49 x c9) (k50 x c9) (k51 x c9)
                  ·
                    refine xw_if_eq C (tgt := 128) d_Md_imagine_101 (by decide) (pc' := 104) rfl (fun h101 => ?_) (fun h101 => ?_)
                    ·
                      replace h101 : 0 = 0 := (xp_eq0 (by omega)).mp h101
                      refine xw_iinc C 4 (v := nI (t + 1)) d_Md_imagine_128 rfl (xp_inc1 _) (by decide) rfl (pc' := 131) rfl ?_
                      refine xw_goto C (tgt := 37) d_Md_imagine_131 (by decide) ?_
                      refine xw_lv [1, 2, 3, 4, 0] rfl ?_
                      refine ih2 (n - (t + 1)) (by omega) (t + 1) M2 rfl (by omega) hf2 hg2 (fun x hx => ?_) (fun x hx => by
                        rcases Nat.lt_or_ge x t with c9 | c9
                        · exact hmC x c9
                        · rw [show x = t by omega]; exact hnm)
                      have q := hL2 x hx
                      by_cases c9 : x = t
                      · subst c9
                        rw [if_neg (by omega), if_neg (by omega)] at q
                        rw [if_pos (by omega), if_pos (by omega), hw1, he1]
                        unfold pl_w1 pl_e1
                        rw [if_neg hrl, if_neg hrl]; exact q
                      · by_cases c8 : x < t
                        · rw [if_pos c8, if_pos c8] at q; rw [if_pos (by omega), if_pos (by omega)]; exact q
                        · rw [if_neg c8, if_neg c8] at q; rw [if_neg (by omega), if_neg (by omega)]; exact q
                    ·
                      replace h101 : ¬ (0 = 0) := fun hneg => h101 ((xp_eq0 (by omega)).mpr hneg)
                      omega
                ·
                  replace h53 : ¬ (0 = 0) := fun hneg => h53 ((xp_eq0 (by omega)).mpr hneg)
                  omega
              ·
                refine xw_topi (y := nI 1) hlv ?_
                refine xw_if_eq C (tgt := 94) d_Md_imagine_53 (by decide) (pc' := 56) rfl (fun h53 => ?_) (fun h53 => ?_)
                ·
                  replace h53 : 1 = 0 := (xp_eq0 (by omega)).mp h53
                  omega
                ·
                  replace h53 : ¬ (1 = 0) := fun hneg => h53 ((xp_eq0 (by omega)).mpr hneg)
                  refine xw_aload_n C 0 d_Md_imagine_56 rfl rfl (pc' := 57) rfl ?_
                  refine xw_get C u_Md 38 zr_38 rfl 16 (by decide) k_586 rfl rfl d_Md_imagine_57 (pc' := 60) rfl ?_
                  refine xw_iload C 4 d_Md_imagine_60 rfl (pc' := 62) rfl ?_
                  refine xw_iald C 50 0 zr_50 rfl t rfl (by omega) (by decide) d_Md_imagine_62 (pc' := 63) rfl ?_
                  refine xw_topi (y := nI sn) hsn ?_
                  refine xw_aload_n C 0 d_Md_imagine_63 rfl rfl (pc' := 64) rfl ?_
                  refine xw_get C u_Md 38 zr_38 rfl 5 (by decide) k_575 rfl rfl d_Md_imagine_64 (pc' := 67) rfl ?_
                  refine xw_iload C 4 d_Md_imagine_67 rfl (pc' := 69) rfl ?_
                  refine xw_iald C 41 0 zr_41 rfl t rfl (by omega) (by decide) d_Md_imagine_69 (pc' := 70) rfl ?_
                  refine xw_topi (y := nI (dl t)) (hT2.2.2 t (by omega)).2.2.1 ?_
                  refine xw_iadd C d_Md_imagine_70 (pc' := 71) rfl ?_
                  refine xw_topi (y := nI (sn + (dl t))) (nI_add _ _) ?_
                  refine xw_iload_n C 3 d_Md_imagine_71 rfl rfl (pc' := 72) rfl ?_
                  refine xw_icmp_gt C (tgt := 94) d_Md_imagine_72 (by decide) (pc' := 75) rfl (fun h72 => ?_) (fun h72 => ?_)
                  ·
                    replace h72 : u < (sn + (dl t)) := (nI_ltI (by omega) (by omega)).mp h72
                    have hnm : ¬ (0 < (pl_sim n per wk dl of u).1 t ∧ (pl_sim n per wk dl of u).2 t ≤ u) := by omega
                    refine xw_aload_n C 0 d_Md_imagine_94 rfl rfl (pc' := 95) rfl ?_
                    refine xw_iload C 4 d_Md_imagine_95 rfl (pc' := 97) rfl ?_
                    refine xw_iload_n C 3 d_Md_imagine_97 rfl rfl (pc' := 98) rfl ?_
                    refine xw_callVi C (c_Md_isReleased l D ca ad M2 n per wk dl of t u hT2 (by omega) (by omega)) ⟨zg_B C 2 k_682 k_31 k_685 q_Md_isReleased ⟨by decide, by decide⟩, C.2.2.2.2.1 _ k_684, C.2.2.2.2.1 _ k_14⟩ 38 zr_38 rfl rfl (fun _ _ _ _ h => h) (fun _ _ _ _ _ _ _ => trivial) rfl rfl (Nat.le_of_ble_eq_true rfl) d_Md_imagine_98 ⟨by decide, by decide⟩ (pc' := 101) rfl (fun r213 M214 hp215 => ?_)
                    obtain ⟨hme, hp215⟩ := hp215
                    rw [hme]
                    clear hme
                    rcases hp215 with ⟨hrl, rfl⟩ | ⟨hrl, rfl⟩
                    ·
                      refine xw_if_eq C (tgt := 128) d_Md_imagine_101 (by decide) (pc' := 104) rfl (fun h101 => ?_) (fun h101 => ?_)
                      ·
                        replace h101 : 1 = 0 := (xp_eq0 (by omega)).mp h101
                        omega
                      ·
                        replace h101 : ¬ (1 = 0) := fun hneg => h101 ((xp_eq0 (by omega)).mpr hneg)
                        refine xw_aload_n C 0 d_Md_imagine_104 rfl rfl (pc' := 105) rfl ?_
                        refine xw_get C u_Md 38 zr_38 rfl 15 (by decide) k_585 rfl rfl d_Md_imagine_105 (pc' := 108) rfl ?_
                        refine xw_iload C 4 d_Md_imagine_108 rfl (pc' := 110) rfl ?_
                        refine xw_iconst C (v := nI 1) d_Md_imagine_110 (by decide) (pc' := 111) rfl ?_
                        obtain ⟨M216, hM216⟩ : ∃ zq, zq = zst M2 49 t (nI 1) := ⟨_, rfl⟩
                        refine xw_zast C 49 2 zr_49 rfl t rfl (by omega) (by decide) (ws' := zW ca ad M216) (by rw [hM216, xp_v1]; exact zs_49 _ _) d_Md_imagine_111 (pc' := 112) rfl ?_
                        refine xw_aload_n C 0 d_Md_imagine_112 rfl rfl (pc' := 113) rfl ?_
                        refine xw_get C u_Md 38 zr_38 rfl 16 (by decide) k_586 rfl rfl d_Md_imagine_113 (pc' := 116) rfl ?_
                        refine xw_iload C 4 d_Md_imagine_116 rfl (pc' := 118) rfl ?_
                        refine xw_iload_n C 3 d_Md_imagine_118 rfl rfl (pc' := 119) rfl ?_
                        obtain ⟨M217, hM217⟩ : ∃ zq, zq = zst M216 50 t (nI u) := ⟨_, rfl⟩
                        refine xw_iast C 50 0 zr_50 rfl t rfl (by omega) (by decide) (ws' := zW ca ad M217) (by rw [hM217]; exact zs_50 _ _) d_Md_imagine_119 (pc' := 120) rfl ?_
                        refine xw_aload_n C 0 d_Md_imagine_120 rfl rfl (pc' := 121) rfl ?_
                        refine xw_get C u_Md 38 zr_38 rfl 17 (by decide) k_587 rfl rfl d_Md_imagine_121 (pc' := 124) rfl ?_
                        refine xw_iload C 4 d_Md_imagine_124 rfl (pc' := 126) rfl ?_
                        refine xw_iconst C (v := nI 0) d_Md_imagine_126 (by decide) (pc' := 127) rfl ?_
                        obtain ⟨M218, hM218⟩ : ∃ zq, zq = zst M217 51 t (nI 0) := ⟨_, rfl⟩
                        refine xw_iast C 51 0 zr_51 rfl t rfl (by omega) (by decide) (ws' := zW ca ad M218) (by rw [hM218]; exact zs_51 _ _) d_Md_imagine_127 (pc' := 128) rfl ?_
                        refine xw_iinc C 4 (v := nI (t + 1)) d_Md_imagine_128 rfl (xp_inc1 _) (by decide) rfl (pc' := 131) rfl ?_
                        refine xw_goto C (tgt := 37) d_Md_imagine_131 (by decide) ?_
                        refine xw_lv [1, 2, 3, 4, 0] rfl ?_
                        have k49 : ∀ x, x ≠ t → M218 49 x = M2 49 x := fun x hx => by rw [hM218, zst_ap, if_neg (by omega), hM217, zst_ap, if_neg (by omega), hM216, zst_ap, if_neg (by omega)]
                        have k50 : ∀ x, x ≠ t → M218 50 x = M2 50 x := fun x hx => by rw [hM218, zst_ap, if_neg (by omega), hM217, zst_ap, if_neg (by omega), hM216, zst_ap, if_neg (by omega)]
                        have k51 : ∀ x, x ≠ t → M218 51 x = M2 51 x := fun x hx => by rw [hM218, zst_ap, if_neg (by omega), hM217, zst_ap, if_neg (by omega), hM216, zst_ap, if_neg (by omega)]
                        refine ih2 (n - (t + 1)) (by omega) (t + 1) M218 rfl (by omega) (fun a b h1 h2 h3 h4 => by rw [hM218, zst_ap, if_neg (fun q => h3 q.1), hM217, zst_ap, if_neg (fun q => h2 q.1), hM216, zst_ap, if_neg (fun q => h1 q.1)]; exact hf2 a b h1 h2 h3 h4) (fun b => by rw [hM218, zst_ap, if_neg (by omega), hM217, zst_ap, if_neg (by omega), hM216, zst_ap, if_neg (by omega)]; exact hg2 b) (fun x hx => ?_) (fun x hx => by
                          rcases Nat.lt_or_ge x t with c9 | c9
                          · exact hmC x c9
                          · rw [show x = t by omega]; exact hnm)
                        have q := hL2 x hx
                        by_cases c9 : x = t
                        · subst c9
                          rw [if_pos (by omega), if_pos (by omega), hw1, he1]
                          unfold pl_w1 pl_e1
                          rw [if_pos hrl, if_pos hrl]
                          refine Or.inr ⟨by rw [hM218, zst_ap, if_neg (by omega), hM217, zst_ap, if_neg (by omega), hM216, zst_ap, if_pos ⟨rfl, rfl⟩], 0, u, by rw [hM218, zst_ap, if_pos ⟨rfl, rfl⟩], by rw [hM218, zst_ap, if_neg (by omega), hM217, zst_ap, if_pos ⟨rfl, rfl⟩], by omega, by omega, rfl, by omega⟩
                        · by_cases c8 : x < t
                          · rw [if_pos c8, if_pos c8] at q; rw [if_pos (by omega), if_pos (by omega)]; exact q.keep (k49 x c9) (k50 x c9) (k51 x c9)
                          · rw [if_neg c8, if_neg c8] at q; rw [if_neg (by omega), if_neg (by omega)]; exact q.keep (k49 x c9) (k50 x c9) (k51 x c9)
                    ·
                      refine xw_if_eq C (tgt := 128) d_Md_imagine_101 (by decide) (pc' := 104) rfl (fun h101 => ?_) (fun h101 => ?_)
                      ·
                        replace h101 : 0 = 0 := (xp_eq0 (by omega)).mp h101
                        refine xw_iinc C 4 (v := nI (t + 1)) d_Md_imagine_128 rfl (xp_inc1 _) (by decide) rfl (pc' := 131) rfl ?_
                        refine xw_goto C (tgt := 37) d_Md_imagine_131 (by decide) ?_
                        refine xw_lv [1, 2, 3, 4, 0] rfl ?_
                        refine ih2 (n - (t + 1)) (by omega) (t + 1) M2 rfl (by omega) hf2 hg2 (fun x hx => ?_) (fun x hx => by
                          rcases Nat.lt_or_ge x t with c9 | c9
                          · exact hmC x c9
                          · rw [show x = t by omega]; exact hnm)
                        have q := hL2 x hx
                        by_cases c9 : x = t
                        · subst c9
                          rw [if_neg (by omega), if_neg (by omega)] at q
                          rw [if_pos (by omega), if_pos (by omega), hw1, he1]
                          unfold pl_w1 pl_e1
                          rw [if_neg hrl, if_neg hrl]; exact q
                        · by_cases c8 : x < t
                          · rw [if_pos c8, if_pos c8] at q; rw [if_pos (by omega), if_pos (by omega)]; exact q
                          · rw [if_neg c8, if_neg c8] at q; rw [if_neg (by omega), if_neg (by omega)]; exact q
                      ·
                        replace h101 : ¬ (0 = 0) := fun hneg => h101 ((xp_eq0 (by omega)).mpr hneg)
                        omega
                  ·
                    replace h72 : ¬ (u < (sn + (dl t))) := fun hneg => h72 ((nI_ltI (by omega) (by omega)).mpr hneg)
                    refine xw_aload_n C 0 d_Md_imagine_75 rfl rfl (pc' := 76) rfl ?_
                    refine xw_get C u_Md 38 zr_38 rfl 17 (by decide) k_587 rfl rfl d_Md_imagine_76 (pc' := 79) rfl ?_
                    refine xw_iload C 4 d_Md_imagine_79 rfl (pc' := 81) rfl ?_
                    refine xw_iald C 51 0 zr_51 rfl t rfl (by omega) (by decide) d_Md_imagine_81 (pc' := 82) rfl ?_
                    refine xw_topi (y := nI hd) hhd ?_
                    refine xw_aload_n C 0 d_Md_imagine_82 rfl rfl (pc' := 83) rfl ?_
                    refine xw_get C u_Md 38 zr_38 rfl 4 (by decide) k_574 rfl rfl d_Md_imagine_83 (pc' := 86) rfl ?_
                    refine xw_iload C 4 d_Md_imagine_86 rfl (pc' := 88) rfl ?_
                    refine xw_iald C 40 0 zr_40 rfl t rfl (by omega) (by decide) d_Md_imagine_88 (pc' := 89) rfl ?_
                    refine xw_topi (y := nI (wk t)) (hT2.2.2 t (by omega)).2.1 ?_
                    refine xw_icmp_ge C (tgt := 94) d_Md_imagine_89 (by decide) (pc' := 92) rfl (fun h89 => ?_) (fun h89 => ?_)
                    ·
                      replace h89 : (wk t) ≤ hd := (nI_leI (by omega) (by omega)).mp h89
                      have hnm : ¬ (0 < (pl_sim n per wk dl of u).1 t ∧ (pl_sim n per wk dl of u).2 t ≤ u) := by omega
                      refine xw_aload_n C 0 d_Md_imagine_94 rfl rfl (pc' := 95) rfl ?_
                      refine xw_iload C 4 d_Md_imagine_95 rfl (pc' := 97) rfl ?_
                      refine xw_iload_n C 3 d_Md_imagine_97 rfl rfl (pc' := 98) rfl ?_
                      refine xw_callVi C (c_Md_isReleased l D ca ad M2 n per wk dl of t u hT2 (by omega) (by omega)) ⟨zg_B C 2 k_682 k_31 k_685 q_Md_isReleased ⟨by decide, by decide⟩, C.2.2.2.2.1 _ k_684, C.2.2.2.2.1 _ k_14⟩ 38 zr_38 rfl rfl (fun _ _ _ _ h => h) (fun _ _ _ _ _ _ _ => trivial) rfl rfl (Nat.le_of_ble_eq_true rfl) d_Md_imagine_98 ⟨by decide, by decide⟩ (pc' := 101) rfl (fun r219 M220 hp221 => ?_)
                      obtain ⟨hme, hp221⟩ := hp221
                      rw [hme]
                      clear hme
                      rcases hp221 with ⟨hrl, rfl⟩ | ⟨hrl, rfl⟩
                      ·
                        refine xw_if_eq C (tgt := 128) d_Md_imagine_101 (by decide) (pc' := 104) rfl (fun h101 => ?_) (fun h101 => ?_)
                        ·
                          replace h101 : 1 = 0 := (xp_eq0 (by omega)).mp h101
                          omega
                        ·
                          replace h101 : ¬ (1 = 0) := fun hneg => h101 ((xp_eq0 (by omega)).mpr hneg)
                          refine xw_aload_n C 0 d_Md_imagine_104 rfl rfl (pc' := 105) rfl ?_
                          refine xw_get C u_Md 38 zr_38 rfl 15 (by decide) k_585 rfl rfl d_Md_imagine_105 (pc' := 108) rfl ?_
                          refine xw_iload C 4 d_Md_imagine_108 rfl (pc' := 110) rfl ?_
                          refine xw_iconst C (v := nI 1) d_Md_imagine_110 (by decide) (pc' := 111) rfl ?_
                          obtain ⟨M222, hM222⟩ : ∃ zq, zq = zst M2 49 t (nI 1) := ⟨_, rfl⟩
                          refine xw_zast C 49 2 zr_49 rfl t rfl (by omega) (by decide) (ws' := zW ca ad M222) (by rw [hM222, xp_v1]; exact zs_49 _ _) d_Md_imagine_111 (pc' := 112) rfl ?_
                          refine xw_aload_n C 0 d_Md_imagine_112 rfl rfl (pc' := 113) rfl ?_
                          refine xw_get C u_Md 38 zr_38 rfl 16 (by decide) k_586 rfl rfl d_Md_imagine_113 (pc' := 116) rfl ?_
                          refine xw_iload C 4 d_Md_imagine_116 rfl (pc' := 118) rfl ?_
                          refine xw_iload_n C 3 d_Md_imagine_118 rfl rfl (pc' := 119) rfl ?_
                          obtain ⟨M223, hM223⟩ : ∃ zq, zq = zst M222 50 t (nI u) := ⟨_, rfl⟩
                          refine xw_iast C 50 0 zr_50 rfl t rfl (by omega) (by decide) (ws' := zW ca ad M223) (by rw [hM223]; exact zs_50 _ _) d_Md_imagine_119 (pc' := 120) rfl ?_
                          refine xw_aload_n C 0 d_Md_imagine_120 rfl rfl (pc' := 121) rfl ?_
                          refine xw_get C u_Md 38 zr_38 rfl 17 (by decide) k_587 rfl rfl d_Md_imagine_121 (pc' := 124) rfl ?_
                          refine xw_iload C 4 d_Md_imagine_124 rfl (pc' := 126) rfl ?_
                          refine xw_iconst C (v := nI 0) d_Md_imagine_126 (by decide) (pc' := 127) rfl ?_
                          obtain ⟨M224, hM224⟩ : ∃ zq, zq = zst M223 51 t (nI 0) := ⟨_, rfl⟩
                          refine xw_iast C 51 0 zr_51 rfl t rfl (by omega) (by decide) (ws' := zW ca ad M224) (by rw [hM224]; exact zs_51 _ _) d_Md_imagine_127 (pc' := 128) rfl ?_
                          refine xw_iinc C 4 (v := nI (t + 1)) d_Md_imagine_128 rfl (xp_inc1 _) (by decide) rfl (pc' := 131) rfl ?_
                          refine xw_goto C (tgt := 37) d_Md_imagine_131 (by decide) ?_
                          refine xw_lv [1, 2, 3, 4, 0] rfl ?_
                          have k49 : ∀ x, x ≠ t → M224 49 x = M2 49 x := fun x hx => by rw [hM224, zst_ap, if_neg (by omega), hM223, zst_ap, if_neg (by omega), hM222, zst_ap, if_neg (by omega)]
                          have k50 : ∀ x, x ≠ t → M224 50 x = M2 50 x := fun x hx => by rw [hM224, zst_ap, if_neg (by omega), hM223, zst_ap, if_neg (by omega), hM222, zst_ap, if_neg (by omega)]
                          have k51 : ∀ x, x ≠ t → M224 51 x = M2 51 x := fun x hx => by rw [hM224, zst_ap, if_neg (by omega), hM223, zst_ap, if_neg (by omega), hM222, zst_ap, if_neg (by omega)]
                          refine ih2 (n - (t + 1)) (by omega) (t + 1) M224 rfl (by omega) (fun a b h1 h2 h3 h4 => by rw [hM224, zst_ap, if_neg (fun q => h3 q.1), hM223, zst_ap, if_neg (fun q => h2 q.1), hM222, zst_ap, if_neg (fun q => h1 q.1)]; exact hf2 a b h1 h2 h3 h4) (fun b => by rw [hM224, zst_ap, if_neg (by omega), hM223, zst_ap, if_neg (by omega), hM222, zst_ap, if_neg (by omega)]; exact hg2 b) (fun x hx => ?_) (fun x hx => by
                            rcases Nat.lt_or_ge x t with c9 | c9
                            · exact hmC x c9
                            · rw [show x = t by omega]; exact hnm)
                          have q := hL2 x hx
                          by_cases c9 : x = t
                          · subst c9
                            rw [if_pos (by omega), if_pos (by omega), hw1, he1]
                            unfold pl_w1 pl_e1
                            rw [if_pos hrl, if_pos hrl]
                            refine Or.inr ⟨by rw [hM224, zst_ap, if_neg (by omega), hM223, zst_ap, if_neg (by omega), hM222, zst_ap, if_pos ⟨rfl, rfl⟩], 0, u, by rw [hM224, zst_ap, if_pos ⟨rfl, rfl⟩], by rw [hM224, zst_ap, if_neg (by omega), hM223, zst_ap, if_pos ⟨rfl, rfl⟩], by omega, by omega, rfl, by omega⟩
                          · by_cases c8 : x < t
                            · rw [if_pos c8, if_pos c8] at q; rw [if_pos (by omega), if_pos (by omega)]; exact q.keep (k49 x c9) (k50 x c9) (k51 x c9)
                            · rw [if_neg c8, if_neg c8] at q; rw [if_neg (by omega), if_neg (by omega)]; exact q.keep (k49 x c9) (k50 x c9) (k51 x c9)
                      ·
                        refine xw_if_eq C (tgt := 128) d_Md_imagine_101 (by decide) (pc' := 104) rfl (fun h101 => ?_) (fun h101 => ?_)
                        ·
                          replace h101 : 0 = 0 := (xp_eq0 (by omega)).mp h101
                          refine xw_iinc C 4 (v := nI (t + 1)) d_Md_imagine_128 rfl (xp_inc1 _) (by decide) rfl (pc' := 131) rfl ?_
                          refine xw_goto C (tgt := 37) d_Md_imagine_131 (by decide) ?_
                          refine xw_lv [1, 2, 3, 4, 0] rfl ?_
                          refine ih2 (n - (t + 1)) (by omega) (t + 1) M2 rfl (by omega) hf2 hg2 (fun x hx => ?_) (fun x hx => by
                            rcases Nat.lt_or_ge x t with c9 | c9
                            · exact hmC x c9
                            · rw [show x = t by omega]; exact hnm)
                          have q := hL2 x hx
                          by_cases c9 : x = t
                          · subst c9
                            rw [if_neg (by omega), if_neg (by omega)] at q
                            rw [if_pos (by omega), if_pos (by omega), hw1, he1]
                            unfold pl_w1 pl_e1
                            rw [if_neg hrl, if_neg hrl]; exact q
                          · by_cases c8 : x < t
                            · rw [if_pos c8, if_pos c8] at q; rw [if_pos (by omega), if_pos (by omega)]; exact q
                            · rw [if_neg c8, if_neg c8] at q; rw [if_neg (by omega), if_neg (by omega)]; exact q
                        ·
                          replace h101 : ¬ (0 = 0) := fun hneg => h101 ((xp_eq0 (by omega)).mpr hneg)
                          omega
                    ·
                      replace h89 : ¬ ((wk t) ≤ hd) := fun hneg => h89 ((nI_leI (by omega) (by omega)).mpr hneg)
                      refine xw_iconst C (v := nI 0) d_Md_imagine_92 (by decide) (pc' := 93) rfl ?_
                      refine xw_zret C hr hlk xp_n0 (F := zW ca ad) M2 rfl ?_ d_Md_imagine_93
                      exact ⟨hf2, Or.inr ⟨fun h9 => h9 u (by omega) ⟨t, by omega, by omega, by omega⟩, rfl⟩⟩
        exact loopC n 0 M1 rfl (by omega) hf1 (fun b => rfl) (fun x hx => by rw [if_neg (by omega), if_neg (by omega)]; exact hL1 x hx) (fun x hx => by omega)
  have loopA : ∀ (d : Nat) (t : Nat) (M1 : Nat → Nat → Int32), n - t = d → t ≤ n → (∀ a b, a ≠ 49 → a ≠ 50 → a ≠ 51 → a ≠ 55 → M1 a b = M a b) → (∀ j, j < t → M1 49 j = nI 0) → XW p l e { frames := 1, cells := 0, slots := 0, locals := 23 } s m args below meth c D zCl (va_A (zW ca ad M) sz) s.heap 5 (zW ca ad M1) 0 0 (MQ below (va_Qi (fun r M' => (∀ a b, a ≠ 49 → a ≠ 50 → a ≠ 51 → a ≠ 55 → M' a b = M a b) ∧ ((∀ u, u ≤ xs_mx of n + h + h → ¬ pl_miss n per wk dl of u) ∧ r = nI 1 ∧ (∀ u, xs_mx of n + h ≤ u → u < xs_mx of n + h + h → M' 55 (u % h) = oI (pl_who n per wk dl of u)) ∨ ¬ (∀ u, u ≤ xs_mx of n + h + h → ¬ pl_miss n per wk dl of u) ∧ r = nI 0)) (xw_B D zCl (zT ca) (va_A (zW ca ad M) sz) (zW ca ad)) (va_A (zW ca ad M) sz)) args s 0 0 (va_A (zW ca ad M) sz)) 2 [(0, .ref (ad 38)), (1, .int (nI (xs_mx of n))), (2, .int (nI h)), (3, .int (nI t))] [] := by
    intro d
    induction d using Nat.strongRecOn with
    | _ d ih =>
      intro t M1 hd ht hfA hvA
      have hT1 : tmOK M1 n per wk dl of := hT.keep (hfA _ _ (by decide) (by decide) (by decide) (by decide)) (fun a j h1 h2 => hfA _ _ (by omega) (by omega) (by omega) (by omega))
      refine xw_iload_n C 3 d_Md_imagine_2 rfl rfl (pc' := 3) rfl ?_
      refine xw_aload_n C 0 d_Md_imagine_3 rfl rfl (pc' := 4) rfl ?_
      refine xw_get C u_Md 38 zr_38 rfl 2 (by decide) k_572 rfl rfl d_Md_imagine_4 (pc' := 7) rfl ?_
      refine xw_topi (y := nI n) hT1.2.1 ?_
      refine xw_icmp_ge C (tgt := 23) d_Md_imagine_7 (by decide) (pc' := 10) rfl (fun h7 => ?_) (fun h7 => ?_)
      ·
        replace h7 : n ≤ t := (nI_leI (by omega) (by omega)).mp h7
        refine xw_iconst C (v := nI 0) d_Md_imagine_23 (by decide) (pc' := 24) rfl ?_
        refine xw_istore_n C d_Md_imagine_24 rfl (by decide) rfl (pc' := 25) rfl ?_
        refine xw_lv [1, 2, 3, 0] rfl ?_
        exact loopB _ 0 M1 rfl (by omega) hfA (fun t9 h9 => Or.inl ⟨hvA t9 (by omega), rfl⟩) (fun x hx => by omega) (fun x h1 h2 => by omega)
      ·
        replace h7 : ¬ (n ≤ t) := fun hneg => h7 ((nI_leI (by omega) (by omega)).mpr hneg)
        refine xw_aload_n C 0 d_Md_imagine_10 rfl rfl (pc' := 11) rfl ?_
        refine xw_get C u_Md 38 zr_38 rfl 15 (by decide) k_585 rfl rfl d_Md_imagine_11 (pc' := 14) rfl ?_
        refine xw_iload_n C 3 d_Md_imagine_14 rfl rfl (pc' := 15) rfl ?_
        refine xw_iconst C (v := nI 0) d_Md_imagine_15 (by decide) (pc' := 16) rfl ?_
        obtain ⟨M51, hM51⟩ : ∃ zq, zq = zst M1 49 t (nI 0) := ⟨_, rfl⟩
        refine xw_zast C 49 2 zr_49 rfl t rfl (by omega) (by decide) (ws' := zW ca ad M51) (by rw [hM51, xp_v0]; exact zs_49 _ _) d_Md_imagine_16 (pc' := 17) rfl ?_
        refine xw_iinc C 3 (v := nI (t + 1)) d_Md_imagine_17 rfl (xp_inc1 _) (by decide) rfl (pc' := 20) rfl ?_
        refine xw_goto C (tgt := 2) d_Md_imagine_20 (by decide) ?_
        refine xw_lv [1, 2, 3, 0] rfl ?_
        refine ih (n - (t + 1)) (by omega) (t + 1) M51 rfl (by omega) (fun a b h1 h2 h3 h4 => by rw [hM51, zst_ap, if_neg (fun q => h1 q.1)]; exact hfA a b h1 h2 h3 h4) (fun j hj => ?_)
        rw [hM51, zst_ap]
        by_cases c9 : j = t
        · rw [if_pos ⟨rfl, c9⟩]
        · rw [if_neg (fun q => c9 q.2)]; exact hvA j (by omega)
  refine xw_lvE (lv' := [(0, .ref (ad 38)), (1, .int (nI (xs_mx of n))), (2, .int (nI h))]) rfl ?_
  refine xw_iconst C (v := nI 0) d_Md_imagine_0 (by decide) (pc' := 1) rfl ?_
  refine xw_istore_n C d_Md_imagine_1 rfl (by decide) rfl (pc' := 2) rfl ?_
  refine xw_lv [1, 2, 3, 0] rfl ?_
  exact loopA n 0 M rfl (by omega) (fun _ _ _ _ _ _ => rfl) (fun j hj => by omega)
