def sp_cm (n : Nat) (per : Nat → Nat) (h : Nat) : Prop := ∀ t, t < n → h % per t = 0

set_option maxHeartbeats 4000000 in
set_option maxRecDepth 100000 in
/-- isCommonMultiple(h): whether h is a multiple of every period -/
theorem c_Tl_isCommonMultiple (l : Launch) (D : va_G) (ca : Nat → ClassId) (ad : Nat → Nat) (M : Nat → Nat → Int32) (n : Nat) (per : Nat → Nat) (h : Nat) (hn : n ≤ 6) (hz : M 1 0 = nI n) (hper : ∀ t, t < n → M (14 + t) 0 = nI (per t) ∧ 1 ≤ per t ∧ per t ≤ 48) (hh : h < 2 ^ 31) : xw_Mi l y_Tl_isCommonMultiple (.code y_Tl_isCommonMultiple b_Tl_isCommonMultiple 3 (some .boolean) :: zG) { frames := 0, cells := 0, slots := 0, locals := 0 } D zCl (zT ca) [.ref (ad 1), .int (nI h)] (zW ca ad M) (fun _ => True) 0 0 (zW ca ad) (fun r M' => M' = M ∧ (sp_cm n per h ∧ r = nI 1 ∨ ¬ sp_cm n per h ∧ r = nI 0)) := by
  intro sz
  refine xw_met (cc := b_Tl_isCommonMultiple) (maxL := 3) (ret := (some .boolean)) (by decide) rfl (Nat.le_of_ble_eq_true rfl) (fun p e s m args below meth c hr hlk hnm hsz hKs C => ?_)
  have loop1 : ∀ (d : Nat) (i : Nat), n - i = d → i ≤ n → (∀ t, t < i → h % per t = 0) → XW p l e { frames := 0, cells := 0, slots := 0, locals := 0 } s m args below meth c D zCl (va_A (zW ca ad M) sz) s.heap 3 (zW ca ad M) 0 0 (MQ below (va_Qi (fun r M' => M' = M ∧ (sp_cm n per h ∧ r = nI 1 ∨ ¬ sp_cm n per h ∧ r = nI 0)) (xw_B D zCl (zT ca) (va_A (zW ca ad M) sz) (zW ca ad)) (va_A (zW ca ad M) sz)) args s 0 0 (va_A (zW ca ad M) sz)) 2 [(0, .ref (ad 1)), (1, .int (nI h)), (2, .int (nI i))] [] := by
    intro d
    induction d using Nat.strongRecOn with
    | _ d ih =>
      intro i hd hi hall
      refine xw_iload_n C 2 d_Tl_isCommonMultiple_2 rfl rfl (pc' := 3) rfl ?_
      refine xw_aload_n C 0 d_Tl_isCommonMultiple_3 rfl rfl (pc' := 4) rfl ?_
      refine xw_get C u_Tl 1 zr_1 rfl 1 (by decide) k_126 rfl rfl d_Tl_isCommonMultiple_4 (pc' := 7) rfl ?_
      refine xw_topi (y := nI n) hz ?_
      refine xw_icmp_ge C (tgt := 32) d_Tl_isCommonMultiple_7 (by decide) (pc' := 10) rfl (fun h7 => ?_) (fun h7 => ?_)
      ·
        replace h7 : n ≤ i := (nI_leI (by omega) (by omega)).mp h7
        refine xw_iconst C (v := nI 1) d_Tl_isCommonMultiple_32 (by decide) (pc' := 33) rfl ?_
        refine xw_zret C hr hlk xp_n1 (F := zW ca ad) M rfl ?_ d_Tl_isCommonMultiple_33
        exact ⟨rfl, Or.inl ⟨fun t ht => hall t (by omega), rfl⟩⟩
      ·
        replace h7 : ¬ (n ≤ i) := fun h9 => h7 ((nI_leI (by omega) (by omega)).mpr h9)
        refine xw_iload_n C 1 d_Tl_isCommonMultiple_10 rfl rfl (pc' := 11) rfl ?_
        refine xw_aload_n C 0 d_Tl_isCommonMultiple_11 rfl rfl (pc' := 12) rfl ?_
        refine xw_get C u_Tl 1 zr_1 rfl 0 (by decide) k_123 rfl rfl d_Tl_isCommonMultiple_12 (pc' := 15) rfl ?_
        refine xw_iload_n C 2 d_Tl_isCommonMultiple_15 rfl rfl (pc' := 16) rfl ?_
        refine xw_aald C 2 1 zr_2 rfl i rfl (by omega) (by decide) rfl d_Tl_isCommonMultiple_16 (pc' := 17) rfl ?_
        refine xw_get C u_Tk (14 + i) (zr_Tk (t := i) (by omega)) rfl 0 (by decide) k_91 rfl rfl d_Tl_isCommonMultiple_17 (pc' := 20) rfl ?_
        refine xw_topi (y := nI (per i)) (hper _ (by omega)).1 ?_
        have hpi := hper i (by omega)
        refine xw_irem C d_Tl_isCommonMultiple_20 (nI_ne0 (by omega) (by omega)) (pc' := 21) rfl ?_
        refine xw_topi (y := nI (h % (per i))) (pk_rem (by omega) (by omega) (by omega)) ?_
        have hm20 : h % (per i) < (per i) := Nat.mod_lt _ (by omega)
        refine xw_if_eq C (tgt := 26) d_Tl_isCommonMultiple_21 (by decide) (pc' := 24) rfl (fun h21 => ?_) (fun h21 => ?_)
        ·
          replace h21 : (h % (per i)) = 0 := (xp_eq0 (by omega)).mp h21
          refine xw_iinc C 2 (v := nI (i + 1)) d_Tl_isCommonMultiple_26 rfl (xp_inc1 _) (by decide) rfl (pc' := 29) rfl ?_
          refine xw_goto C (tgt := 2) d_Tl_isCommonMultiple_29 (by decide) ?_
          refine xw_lv [1, 2, 0] rfl ?_
          exact ih (n - (i + 1)) (by omega) (i + 1) rfl (by omega) (fun t ht => by
            rcases Nat.lt_or_ge t i with c9 | c9
            · exact hall t c9
            · rw [show t = i by omega]; exact h21)
        ·
          replace h21 : ¬ ((h % (per i)) = 0) := fun h9 => h21 ((xp_eq0 (by omega)).mpr h9)
          refine xw_iconst C (v := nI 0) d_Tl_isCommonMultiple_24 (by decide) (pc' := 25) rfl ?_
          refine xw_zret C hr hlk xp_n0 (F := zW ca ad) M rfl ?_ d_Tl_isCommonMultiple_25
          exact ⟨rfl, Or.inr ⟨fun h9 => h21 (h9 i (by omega)), rfl⟩⟩
  refine xw_lvE (lv' := [(0, .ref (ad 1)), (1, .int (nI h))]) rfl ?_
  refine xw_iconst C (v := nI 0) d_Tl_isCommonMultiple_0 (by decide) (pc' := 1) rfl ?_
  refine xw_istore_n C d_Tl_isCommonMultiple_1 rfl (by decide) rfl (pc' := 2) rfl ?_
  refine xw_lv [1, 2, 0] rfl ?_
  exact loop1 n 0 rfl (by omega) (fun t ht => by omega)
