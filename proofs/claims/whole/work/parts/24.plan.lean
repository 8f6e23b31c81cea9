theorem plOK.rel {M1 M2 : Nat → Nat → Int32} {n c : Nat} {per wk dl of w en : Nat → Nat} (hP : plOK M1 n w en) (h2 : ∀ t, t < n → M2 8 t = if t < n ∧ sp_rel (of t) (per t) c then nI (wk t) else M1 8 t) (h3 : ∀ t, t < n → M2 9 t = if t < n ∧ sp_rel (of t) (per t) c then nI (c + dl t) else M1 9 t)
    (hb : ∀ t, t < n → wk t ≤ 48 ∧ dl t ≤ 48) (hc : c < 2 ^ 19) : plOK M2 n (pl_w1 of per wk c w) (pl_e1 of per dl c en) := by
  intro t ht
  obtain ⟨a1, a2, a3, a4⟩ := hP t ht
  have q := hb t ht
  rw [h2 t ht, h3 t ht]
  unfold pl_w1 pl_e1
  by_cases d : sp_rel (of t) (per t) c
  · have e1 : t < n ∧ sp_rel (of t) (per t) c := ⟨ht, d⟩
    rw [if_pos e1, if_pos e1, if_pos d, if_pos d]
    exact ⟨rfl, fun _ => rfl, by omega, by omega⟩
  · have e1 : ¬ (t < n ∧ sp_rel (of t) (per t) c) := fun h9 => d h9.2
    rw [if_neg e1, if_neg e1, if_neg d, if_neg d]
    exact ⟨a1, a2, a3, a4⟩
theorem plOK.dec {M M1 : Nat → Nat → Int32} {n b : Nat} {w en : Nat → Nat} (hP : plOK M n w en) (h : M1 = zst M 8 b (nI (w b - 1))) : plOK M1 n (pl_w2 w (some b)) en := by
  intro t ht
  obtain ⟨a1, a2, a3, a4⟩ := hP t ht
  have e9 : M1 9 t = M 9 t := by rw [h, zst_ap, if_neg (fun h9 => absurd h9.1 (by decide))]
  have e8 : M1 8 t = if 8 = 8 ∧ t = b then nI (w b - 1) else M 8 t := by rw [h, zst_ap]
  rw [e9, e8]
  unfold pl_w2
  by_cases c : t = b
  · subst c
    have q1 : 8 = 8 ∧ t = t := ⟨rfl, rfl⟩
    have q2 : some t = some t := rfl
    rw [if_pos q1, if_pos q2]
    exact ⟨rfl, fun h => a2 (by omega), by omega, a4⟩
  · have q1 : ¬ (8 = 8 ∧ t = b) := fun h9 => c h9.2
    have q2 : ¬ (some b = some t) := fun h9 => c (Option.some.inj h9).symm
    rw [if_neg q1, if_neg q2]
    exact ⟨a1, a2, a3, a4⟩
theorem plOK.non {M : Nat → Nat → Int32} {n : Nat} {w en : Nat → Nat} (hP : plOK M n w en) : plOK M n (pl_w2 w none) en := by
  intro t ht
  unfold pl_w2
  rw [if_neg (fun h9 => by cases h9)]
  exact hP t ht
theorem plOK.keep {M M1 : Nat → Nat → Int32} {n : Nat} {w en : Nat → Nat} (hP : plOK M n w en) (h8 : ∀ b, M1 8 b = M 8 b) (h9 : ∀ b, M1 9 b = M 9 b) : plOK M1 n w en := by
  intro t ht
  rw [h8, h9]
  exact hP t ht
/-- the tasks can be served -/
def pl_ok (n : Nat) (per wk dl of : Nat → Nat) (h : Nat) : Prop := xs_sm (fun t => wk t * (h / per t)) n ≤ h ∧ ∀ c, c ≤ xs_mx of n + h + h → ¬ pl_miss n per wk dl of c
theorem pl_miss0 {n : Nat} {per wk dl of : Nat → Nat} : ¬ pl_miss n per wk dl of 0 := by
  rintro ⟨t, h1, h2, h3⟩
  exact absurd h2 (Nat.lt_irrefl 0)
theorem xs_sm_le {f : Nat → Nat} {n b : Nat} (h : ∀ j, j < n → f j ≤ b) : xs_sm f n ≤ n * b := by
  induction n with
  | zero => exact Nat.zero_le _
  | succ n ih =>
    have q := ih (fun j hj => h j (by omega))
    have r := h n (by omega)
    show xs_sm f n + f n ≤ (n + 1) * b
    rw [Nat.succ_mul]
    omega
theorem pl_need {n h : Nat} {per wk : Nat → Nat} (hn : n ≤ 6) (hh : h ≤ 240) (hb : ∀ t, t < n → wk t ≤ 48) : xs_sm (fun t => wk t * (h / per t)) n ≤ 69120 := by
  have q := xs_sm_le (f := fun t => wk t * (h / per t)) (n := n) (b := 48 * 240) (fun j hj => Nat.mul_le_mul (hb j hj) (Nat.le_trans (Nat.div_le_self _ _) hh))
  have r : n * (48 * 240) ≤ 6 * (48 * 240) := Nat.mul_le_mul_right _ hn
  omega

theorem xp_modinj {x c a h : Nat} (h1 : a ≤ x) (h2 : x < c + 1) (h3 : c < a + h) (h4 : x % h = c % h) : x = c := by
  rcases Nat.lt_or_ge x c with d | d
  · exfalso
    have hp : 0 < h := by omega
    have e1 := Nat.div_add_mod x h
    have e2 := Nat.div_add_mod c h
    rw [h4] at e1
    have e3 : h * (c / h) = h * (x / h) + (c - x) := by omega
    have e4 : x / h < c / h := by
      rcases Nat.lt_or_ge (x / h) (c / h) with g | g
      · exact g
      · have := Nat.mul_le_mul_left h g
        omega
    have e5 : h * (x / h + 1) ≤ h * (c / h) := Nat.mul_le_mul_left h e4
    rw [Nat.mul_succ] at e5
    omega
  · omega


set_option maxHeartbeats 4000000 in
set_option maxRecDepth 100000 in
/-- plan(tasks, owners, h) -/
theorem c_Pl_plan (l : Launch) (D : va_G) (ca : Nat → ClassId) (ad : Nat → Nat) (M : Nat → Nat → Int32) (n : Nat) (per wk dl of : Nat → Nat) (h : Nat) (hT : tkOK M n per wk dl of) (hh1 : 1 ≤ h) (hh : h ≤ 240) : xw_Mi l y_Pl_plan (.code y_Pl_plan b_Pl_plan 7 (some .boolean) :: zG) { frames := 2, cells := 0, slots := 0, locals := 45 } D zCl (zT ca) [.ref (ad 7), .ref (ad 1), .ref (ad 13), .int (nI h)] (zW ca ad M) (fun _ => True) 0 0 (zW ca ad) (fun r M' => (∀ a b, a ≠ 8 → a ≠ 9 → a ≠ 13 → M' a b = M a b) ∧ (pl_ok n per wk dl of h ∧ r = nI 1 ∧ (∀ u, xs_mx of n + h ≤ u → u < xs_mx of n + h + h → M' 13 (u % h) = oI (pl_who n per wk dl of u)) ∨ ¬ pl_ok n per wk dl of h ∧ r = nI 0)) := by
  intro sz
  refine xw_met (cc := b_Pl_plan) (maxL := 7) (ret := (some .boolean)) (by decide) rfl (Nat.le_of_ble_eq_true rfl) (fun p e s m args below meth c hr hlk hnm hsz hKs C => ?_)
  have hn6 := hT.1
  have hmx : xs_mx of n ≤ 48 := xs_mx_le (fun j hj => by have := hT.2.2 j (by omega); omega)
  have hnd := pl_need (per := per) (wk := wk) hT.1 hh (fun t ht => by have := hT.2.2 t ht; omega)
  have loop0 : xs_sm (fun t => wk t * (h / per t)) n ≤ h → True := fun _ => trivial
  have loop1 : xs_sm (fun t => wk t * (h / per t)) n ≤ h → ∀ (d : Nat) (u : Nat) (M1 : Nat → Nat → Int32), (xs_mx of n + h + h) - u = d → u ≤ xs_mx of n + h + h → (∀ a b, a ≠ 8 → a ≠ 9 → a ≠ 13 → M1 a b = M a b) → plOK M1 n (pl_sim n per wk dl of u).1 (pl_sim n per wk dl of u).2 → (∀ x, x ≤ u → ¬ pl_miss n per wk dl of x) → (∀ x, xs_mx of n + h ≤ x → x < u → M1 13 (x % h) = oI (pl_who n per wk dl of x)) → XW p l e { frames := 2, cells := 0, slots := 0, locals := 45 } s m args below meth c D zCl (va_A (zW ca ad M) sz) s.heap 7 (zW ca ad M1) 0 0 (MQ below (va_Qi (fun r M' => (∀ a b, a ≠ 8 → a ≠ 9 → a ≠ 13 → M' a b = M a b) ∧ (pl_ok n per wk dl of h ∧ r = nI 1 ∧ (∀ u, xs_mx of n + h ≤ u → u < xs_mx of n + h + h → M' 13 (u % h) = oI (pl_who n per wk dl of u)) ∨ ¬ pl_ok n per wk dl of h ∧ r = nI 0)) (xw_B D zCl (zT ca) (va_A (zW ca ad M) sz) (zW ca ad)) (va_A (zW ca ad M) sz)) args s 0 0 (va_A (zW ca ad M) sz)) 30 [(0, .ref (ad 7)), (1, .ref (ad 1)), (2, .ref (ad 13)), (3, .int (nI h)), (4, .int (nI (xs_mx of n + h))), (5, .int (nI u))] [] := by
    intro hneed d
    induction d using Nat.strongRecOn with
    | _ d ih =>
      intro u M1 hd hi hf1 hP1 hms1 hw1s
      have hT1 : tkOK M1 n per wk dl of := hT.keep (hf1 _ _ (by decide) (by decide) (by decide)) (fun t j ht => hf1 _ _ (by omega) (by omega) (by omega))
      obtain ⟨w1, hw1⟩ : ∃ z, z = pl_w1 of per wk u (pl_sim n per wk dl of u).1 := ⟨_, rfl⟩
      obtain ⟨e1, he1⟩ : ∃ z, z = pl_e1 of per dl u (pl_sim n per wk dl of u).2 := ⟨_, rfl⟩
      have hsim : pl_sim n per wk dl of (u + 1) = (pl_w2 w1 (pl_pk w1 e1 n), e1) := by rw [hw1, he1]; rfl
      have hwho : pl_who n per wk dl of u = pl_pk w1 e1 n := by rw [hw1, he1]; rfl
      refine xw_iload C 5 d_Pl_plan_30 rfl (pc' := 32) rfl ?_
      refine xw_iload C 4 d_Pl_plan_32 rfl (pc' := 34) rfl ?_
      refine xw_iload_n C 3 d_Pl_plan_34 rfl rfl (pc' := 35) rfl ?_
      refine xw_iadd C d_Pl_plan_35 (pc' := 36) rfl ?_
      refine xw_topi (y := nI ((xs_mx of n + h) + h)) (nI_add _ _) ?_
      refine xw_icmp_ge C (tgt := 111) d_Pl_plan_36 (by decide) (pc' := 39) rfl (fun h36 => ?_) (fun h36 => ?_)
      ·
        replace h36 : ((xs_mx of n + h) + h) ≤ u := (nI_leI (by omega) (by omega)).mp h36
        refine xw_iconst C (v := nI 1) d_Pl_plan_111 (by decide) (pc' := 112) rfl ?_
        refine xw_zret C hr hlk xp_n1 (F := zW ca ad) M1 rfl ?_ d_Pl_plan_112
        refine ⟨hf1, Or.inl ⟨⟨by omega, fun x hx => hms1 x (by omega)⟩, rfl, fun x h1 h2 => hw1s x h1 (by omega)⟩⟩
      ·
        replace h36 : ¬ (((xs_mx of n + h) + h) ≤ u) := fun hneg => h36 ((nI_leI (by omega) (by omega)).mpr hneg)
        refine xw_aload_n C 0 d_Pl_plan_39 rfl rfl (pc' := 40) rfl ?_
        refine xw_aload_n C 1 d_Pl_plan_40 rfl rfl (pc' := 41) rfl ?_
        refine xw_iload C 5 d_Pl_plan_41 rfl (pc' := 43) rfl ?_
        refine xw_callVv C (c_Pl_release l D ca ad M1 n per wk dl of u hT1 (by omega)) ⟨zg_B C 2 k_403 k_29 k_406 q_Pl_release ⟨by decide, by decide⟩, C.2.2.2.2.1 _ k_405, C.2.2.2.2.1 _ k_3⟩ 7 zr_7 rfl rfl (fun _ _ _ _ h => h) (fun _ _ _ _ _ _ _ => trivial) rfl rfl (Nat.le_of_ble_eq_true rfl) d_Pl_plan_43 ⟨by decide, by decide⟩ (pc' := 46) rfl (fun M52 hp53 => ?_)
        obtain ⟨hr1, hr2, hr3⟩ := hp53
        have hf2 : ∀ a b, a ≠ 8 → a ≠ 9 → a ≠ 13 → M52 a b = M a b := fun a b h1 h2 h3 => (hr1 a b h1 h2).trans (hf1 a b h1 h2 h3)
        have hT2 : tkOK M52 n per wk dl of := hT.keep (hf2 _ _ (by decide) (by decide) (by decide)) (fun t j ht => hf2 _ _ (by omega) (by omega) (by omega))
        have hP2 : plOK M52 n w1 e1 := by rw [hw1, he1]; exact hP1.rel hr2 hr3 (fun t ht => by have := hT.2.2 t ht; omega) (by omega)
        refine xw_aload_n C 0 d_Pl_plan_46 rfl rfl (pc' := 47) rfl ?_
        have hszz : M52 1 0 = nI n := (hf2 _ _ (by decide) (by decide) (by decide)).trans hT.2.1
        refine xw_aload_n C 1 d_Pl_plan_47 rfl rfl (pc' := 48) rfl ?_
        refine xw_get C u_Tl 1 zr_1 rfl 1 (by decide) k_127 rfl rfl d_Pl_plan_48 (pc' := 51) rfl ?_
        refine xw_topi (y := nI n) hszz ?_
        refine xw_callVi C (c_Pl_mostUrgent l D ca ad M52 n w1 e1 (by omega) hP2) ⟨zg_B C 1 k_411 k_29 k_414 q_Pl_mostUrgent ⟨by decide, by decide⟩, C.2.2.2.2.1 _ k_413, C.2.2.2.2.1 _ k_4⟩ 7 zr_7 rfl rfl (fun _ _ _ _ h => h) (fun _ _ _ _ _ _ _ => trivial) rfl rfl (Nat.le_of_ble_eq_true rfl) d_Pl_plan_51 ⟨by decide, by decide⟩ (pc' := 54) rfl (fun r54 M55 hp56 => ?_)
        obtain ⟨hme, hre⟩ := hp56
        rw [hme, hre]
        clear hme hre
        rcases hk : pl_pk w1 e1 n with _ | b
        ·
          refine xw_topi (y := -1) rfl ?_
          refine xw_istore C d_Pl_plan_54 (by decide) rfl (pc' := 56) rfl ?_
          refine xw_iload C 0 d_Pl_plan_56 rfl (pc' := 58) rfl ?_
          refine xw_iconst C (v := (-1)) d_Pl_plan_58 (by decide) (pc' := 59) rfl ?_
          refine xw_icmp_eq C (tgt := 73) d_Pl_plan_59 (by decide) (pc' := 62) rfl (fun h59 => ?_) (fun h59 => ?_)
          ·
            have hP3 : plOK M52 n (pl_w2 w1 (pl_pk w1 e1 n)) e1 := by rw [hk]; exact hP2.non
            have hf3 : ∀ a b, a ≠ 8 → a ≠ 9 → a ≠ 13 → M52 a b = M a b := hf2
            have ho3 : ∀ b, M52 13 b = M1 13 b := fun b => hr1 _ _ (by decide) (by decide)
            refine xw_iload C 6 d_Pl_plan_73 rfl (pc' := 75) rfl ?_
            refine xw_iload C 5 d_Pl_plan_75 rfl (pc' := 77) rfl ?_
            refine xw_icmp_lt C (tgt := 88) d_Pl_plan_77 (by decide) (pc' := 80) rfl (fun h77 => ?_) (fun h77 => ?_)
            ·
              replace h77 : u < (xs_mx of n + h) := (nI_ltI (by omega) (by omega)).mp h77
              have hP4 := hP3
              have hf4 := hf3
              have hw4 : ∀ x, xs_mx of n + h ≤ x → x < u + 1 → M52 13 (x % h) = oI (pl_who n per wk dl of x) := fun x h1 h2 => by omega
              refine xw_aload_n C 1 d_Pl_plan_88 rfl rfl (pc' := 89) rfl ?_
              have hszz : M52 1 0 = nI n := (hf4 _ _ (by decide) (by decide) (by decide)).trans hT.2.1
              refine xw_aload_n C 2 d_Pl_plan_89 rfl rfl (pc' := 90) rfl ?_
              refine xw_get C u_Tl 1 zr_1 rfl 1 (by decide) k_127 rfl rfl d_Pl_plan_90 (pc' := 93) rfl ?_
              refine xw_topi (y := nI n) hszz ?_
              refine xw_iload C 6 d_Pl_plan_93 rfl (pc' := 95) rfl ?_
              refine xw_iconst C (v := nI 1) d_Pl_plan_95 (by decide) (pc' := 96) rfl ?_
              refine xw_iadd C d_Pl_plan_96 (pc' := 97) rfl ?_
              refine xw_topi (y := nI (u + 1)) (nI_add _ _) ?_
              refine xw_callVi C (c_Pl_missesWindow l D ca ad M52 n (pl_w2 w1 (pl_pk w1 e1 n)) e1 (u + 1) (by omega) hP4 (by omega)) ⟨zg_B C 2 k_415 k_29 k_418 q_Pl_missesWindow ⟨by decide, by decide⟩, C.2.2.2.2.1 _ k_417, C.2.2.2.2.1 _ k_5⟩ 7 zr_7 rfl rfl (fun _ _ _ _ h => h) (fun _ _ _ _ _ _ _ => trivial) rfl rfl (Nat.le_of_ble_eq_true rfl) d_Pl_plan_97 ⟨by decide, by decide⟩ (pc' := 100) rfl (fun r57 M58 hp59 => ?_)
              obtain ⟨hme, hp59⟩ := hp59
              rw [hme]
              clear hme
              rcases hp59 with ⟨hms, rfl⟩ | ⟨hms, rfl⟩
              ·
                refine xw_if_eq C (tgt := 105) d_Pl_plan_100 (by decide) (pc' := 103) rfl (fun h100 => ?_) (fun h100 => ?_)
                ·
                  replace h100 : 1 = 0 := (xp_eq0 (by omega)).mp h100
                  omega
                ·
                  replace h100 : ¬ (1 = 0) := fun hneg => h100 ((xp_eq0 (by omega)).mpr hneg)
                  refine xw_iconst C (v := nI 0) d_Pl_plan_103 (by decide) (pc' := 104) rfl ?_
                  refine xw_zret C hr hlk xp_n0 (F := zW ca ad) M52 rfl ?_ d_Pl_plan_104
                  refine ⟨hf4, Or.inr ⟨fun h9 => h9.2 (u + 1) (by omega) ?_, rfl⟩⟩
                  obtain ⟨t, q1, q2, q3⟩ := hms
                  exact ⟨t, q1, by rw [hsim]; exact q2, by rw [hsim]; exact q3⟩
              ·
                refine xw_if_eq C (tgt := 105) d_Pl_plan_100 (by decide) (pc' := 103) rfl (fun h100 => ?_) (fun h100 => ?_)
                ·
                  replace h100 : 0 = 0 := (xp_eq0 (by omega)).mp h100
                  refine xw_iinc C 6 (v := nI (u + 1)) d_Pl_plan_105 rfl (xp_inc1 _) (by decide) rfl (pc' := 108) rfl ?_
                  refine xw_goto C (tgt := 30) d_Pl_plan_108 (by decide) ?_
                  refine xw_lv [2, 3, 4, 5, 6, 0] rfl ?_
                  refine ih (xs_mx of n + h + h - (u + 1)) (by omega) (u + 1) M52 rfl (by omega) hf4 (by rw [hsim]; exact hP4) (fun x hx => ?_) hw4
                  rcases Nat.lt_or_ge x (u + 1) with d9 | d9
                  · exact hms1 x (by omega)
                  · rw [show x = u + 1 by omega]
                    intro h9
                    obtain ⟨t, q1, q2, q3⟩ := h9
                    rw [hsim] at q2 q3
                    exact hms ⟨t, q1, q2, q3⟩
                ·
                  replace h100 : ¬ (0 = 0) := fun hneg => h100 ((xp_eq0 (by omega)).mpr hneg)
                  omega
            ·
              replace h77 : ¬ (u < (xs_mx of n + h)) := fun hneg => h77 ((nI_ltI (by omega) (by omega)).mpr hneg)
              refine xw_aload_n C 3 d_Pl_plan_80 rfl rfl (pc' := 81) rfl ?_
              refine xw_iload C 6 d_Pl_plan_81 rfl (pc' := 83) rfl ?_
              refine xw_iload_n C 4 d_Pl_plan_83 rfl rfl (pc' := 84) rfl ?_
              refine xw_irem C d_Pl_plan_84 (nI_ne0 (by omega) (by omega)) (pc' := 85) rfl ?_
              refine xw_topi (y := nI (u % h)) (pk_rem (by omega) (by omega) (by omega)) ?_
              have hm84 : u % h < h := Nat.mod_lt _ (by omega)
              refine xw_iload C 0 d_Pl_plan_85 rfl (pc' := 87) rfl ?_
              obtain ⟨M60, hM60⟩ : ∃ z, z = zst M52 13 (u % h) (-1) := ⟨_, rfl⟩
              refine xw_iast C 13 0 zr_13 rfl (u % h) rfl (by omega) (by decide) (ws' := zW ca ad M60) (by rw [hM60]; exact zs_13 _ _) d_Pl_plan_87 (pc' := 88) rfl ?_
              have hP4 : plOK M60 n (pl_w2 w1 (pl_pk w1 e1 n)) e1 := hP3.keep (fun b => by rw [hM60, zst_ap, if_neg (fun h9 => absurd h9.1 (by decide))]) (fun b => by rw [hM60, zst_ap, if_neg (fun h9 => absurd h9.1 (by decide))])
              have hf4 : ∀ a b, a ≠ 8 → a ≠ 9 → a ≠ 13 → M60 a b = M a b := fun a b h1 h2 h3 => by rw [hM60, zst_ap, if_neg (fun h9 => h3 h9.1)]; exact hf3 a b h1 h2 h3
              have hw4 : ∀ x, xs_mx of n + h ≤ x → x < u + 1 → M60 13 (x % h) = oI (pl_who n per wk dl of x) := fun x h1 h2 => by
                rw [hM60, zst_ap]
                by_cases d9 : x = u
                · subst d9; rw [if_pos ⟨rfl, rfl⟩, hwho, hk]; rfl
                · rw [if_neg (fun h9 : 13 = 13 ∧ x % h = u % h => d9 (xp_modinj (a := xs_mx of n + h) (by omega) (by omega) (by omega) h9.2)), ho3]; exact hw1s x h1 (by omega)
              refine xw_aload_n C 1 d_Pl_plan_88 rfl rfl (pc' := 89) rfl ?_
              have hszz : M60 1 0 = nI n := (hf4 _ _ (by decide) (by decide) (by decide)).trans hT.2.1
              refine xw_aload_n C 2 d_Pl_plan_89 rfl rfl (pc' := 90) rfl ?_
              refine xw_get C u_Tl 1 zr_1 rfl 1 (by decide) k_127 rfl rfl d_Pl_plan_90 (pc' := 93) rfl ?_
              refine xw_topi (y := nI n) hszz ?_
              refine xw_iload C 6 d_Pl_plan_93 rfl (pc' := 95) rfl ?_
              refine xw_iconst C (v := nI 1) d_Pl_plan_95 (by decide) (pc' := 96) rfl ?_
              refine xw_iadd C d_Pl_plan_96 (pc' := 97) rfl ?_
              refine xw_topi (y := nI (u + 1)) (nI_add _ _) ?_
              refine xw_callVi C (c_Pl_missesWindow l D ca ad M60 n (pl_w2 w1 (pl_pk w1 e1 n)) e1 (u + 1) (by omega) hP4 (by omega)) ⟨zg_B C 2 k_415 k_29 k_418 q_Pl_missesWindow ⟨by decide, by decide⟩, C.2.2.2.2.1 _ k_417, C.2.2.2.2.1 _ k_5⟩ 7 zr_7 rfl rfl (fun _ _ _ _ h => h) (fun _ _ _ _ _ _ _ => trivial) rfl rfl (Nat.le_of_ble_eq_true rfl) d_Pl_plan_97 ⟨by decide, by decide⟩ (pc' := 100) rfl (fun r61 M62 hp63 => ?_)
              obtain ⟨hme, hp63⟩ := hp63
              rw [hme]
              clear hme
              rcases hp63 with ⟨hms, rfl⟩ | ⟨hms, rfl⟩
              ·
                refine xw_if_eq C (tgt := 105) d_Pl_plan_100 (by decide) (pc' := 103) rfl (fun h100 => ?_) (fun h100 => ?_)
                ·
                  replace h100 : 1 = 0 := (xp_eq0 (by omega)).mp h100
                  omega
                ·
                  replace h100 : ¬ (1 = 0) := fun hneg => h100 ((xp_eq0 (by omega)).mpr hneg)
                  refine xw_iconst C (v := nI 0) d_Pl_plan_103 (by decide) (pc' := 104) rfl ?_
                  refine xw_zret C hr hlk xp_n0 (F := zW ca ad) M60 rfl ?_ d_Pl_plan_104
                  refine ⟨hf4, Or.inr ⟨fun h9 => h9.2 (u + 1) (by omega) ?_, rfl⟩⟩
                  obtain ⟨t, q1, q2, q3⟩ := hms
                  exact ⟨t, q1, by rw [hsim]; exact q2, by rw [hsim]; exact q3⟩
              ·
                refine xw_if_eq C (tgt := 105) d_Pl_plan_100 (by decide) (pc' := 103) rfl (fun h100 => ?_) (fun h100 => ?_)
                ·
                  replace h100 : 0 = 0 := (xp_eq0 (by omega)).mp h100
                  refine xw_iinc C 6 (v := nI (u + 1)) d_Pl_plan_105 rfl (xp_inc1 _) (by decide) rfl (pc' := 108) rfl ?_
                  refine xw_goto C (tgt := 30) d_Pl_plan_108 (by decide) ?_
                  refine xw_lv [2, 3, 4, 5, 6, 0] rfl ?_
                  refine ih (xs_mx of n + h + h - (u + 1)) (by omega) (u + 1) M60 rfl (by omega) hf4 (by rw [hsim]; exact hP4) (fun x hx => ?_) hw4
                  rcases Nat.lt_or_ge x (u + 1) with d9 | d9
                  · exact hms1 x (by omega)
                  · rw [show x = u + 1 by omega]
                    intro h9
                    obtain ⟨t, q1, q2, q3⟩ := h9
                    rw [hsim] at q2 q3
                    exact hms ⟨t, q1, q2, q3⟩
                ·
                  replace h100 : ¬ (0 = 0) := fun hneg => h100 ((xp_eq0 (by omega)).mpr hneg)
                  omega
          ·
            exact absurd rfl h59
        ·
          refine xw_topi (y := nI b) rfl ?_
          have hkb := pl_pk_lt hk
          have hPb := hP2 b (by omega)
          refine xw_istore C d_Pl_plan_54 (by decide) rfl (pc' := 56) rfl ?_
          refine xw_iload C 0 d_Pl_plan_56 rfl (pc' := 58) rfl ?_
          refine xw_iconst C (v := (-1)) d_Pl_plan_58 (by decide) (pc' := 59) rfl ?_
          refine xw_icmp_eq C (tgt := 73) d_Pl_plan_59 (by decide) (pc' := 62) rfl (fun h59 => ?_) (fun h59 => ?_)
          ·
            exact absurd h59 (xp_nem1 (by omega))
          ·
            refine xw_aload_n C 1 d_Pl_plan_62 rfl rfl (pc' := 63) rfl ?_
            refine xw_get C u_Pl 7 zr_7 rfl 0 (by decide) k_160 rfl rfl d_Pl_plan_63 (pc' := 66) rfl ?_
            refine xw_iload C 0 d_Pl_plan_66 rfl (pc' := 68) rfl ?_
            refine xw_dup2_11 C d_Pl_plan_68 rfl rfl (pc' := 69) rfl ?_
            refine xw_iald C 8 0 zr_8 rfl b rfl (by omega) (by decide) d_Pl_plan_69 (pc' := 70) rfl ?_
            refine xw_topi (y := nI (w1 b)) hPb.1 ?_
            refine xw_iconst C (v := nI 1) d_Pl_plan_70 (by decide) (pc' := 71) rfl ?_
            refine xw_isub C d_Pl_plan_71 (pc' := 72) rfl ?_
            refine xw_topi (y := nI ((w1 b) - 1)) (pk_sub (by omega)) ?_
            obtain ⟨M64, hM64⟩ : ∃ z, z = zst M52 8 b (nI ((w1 b) - 1)) := ⟨_, rfl⟩
            refine xw_iast C 8 0 zr_8 rfl b rfl (by omega) (by decide) (ws' := zW ca ad M64) (by rw [hM64]; exact zs_8 _ _) d_Pl_plan_72 (pc' := 73) rfl ?_
            have hP3 : plOK M64 n (pl_w2 w1 (pl_pk w1 e1 n)) e1 := by rw [hk]; exact hP2.dec hM64
            have hf3 : ∀ a b, a ≠ 8 → a ≠ 9 → a ≠ 13 → M64 a b = M a b := fun a b h1 h2 h3 => by rw [hM64, zst_ap, if_neg (fun h9 => h1 h9.1)]; exact hf2 a b h1 h2 h3
            have ho3 : ∀ b, M64 13 b = M1 13 b := fun b => by rw [hM64, zst_ap, if_neg (fun h9 => absurd h9.1 (by decide))]; exact hr1 _ _ (by decide) (by decide)
            refine xw_iload C 6 d_Pl_plan_73 rfl (pc' := 75) rfl ?_
            refine xw_iload C 5 d_Pl_plan_75 rfl (pc' := 77) rfl ?_
            refine xw_icmp_lt C (tgt := 88) d_Pl_plan_77 (by decide) (pc' := 80) rfl (fun h77 => ?_) (fun h77 => ?_)
            ·
              replace h77 : u < (xs_mx of n + h) := (nI_ltI (by omega) (by omega)).mp h77
              have hP4 := hP3
              have hf4 := hf3
              have hw4 : ∀ x, xs_mx of n + h ≤ x → x < u + 1 → M64 13 (x % h) = oI (pl_who n per wk dl of x) := fun x h1 h2 => by omega
              refine xw_aload_n C 1 d_Pl_plan_88 rfl rfl (pc' := 89) rfl ?_
              have hszz : M64 1 0 = nI n := (hf4 _ _ (by decide) (by decide) (by decide)).trans hT.2.1
              refine xw_aload_n C 2 d_Pl_plan_89 rfl rfl (pc' := 90) rfl ?_
              refine xw_get C u_Tl 1 zr_1 rfl 1 (by decide) k_127 rfl rfl d_Pl_plan_90 (pc' := 93) rfl ?_
              refine xw_topi (y := nI n) hszz ?_
              refine xw_iload C 6 d_Pl_plan_93 rfl (pc' := 95) rfl ?_
              refine xw_iconst C (v := nI 1) d_Pl_plan_95 (by decide) (pc' := 96) rfl ?_
              refine xw_iadd C d_Pl_plan_96 (pc' := 97) rfl ?_
              refine xw_topi (y := nI (u + 1)) (nI_add _ _) ?_
              refine xw_callVi C (c_Pl_missesWindow l D ca ad M64 n (pl_w2 w1 (pl_pk w1 e1 n)) e1 (u + 1) (by omega) hP4 (by omega)) ⟨zg_B C 2 k_415 k_29 k_418 q_Pl_missesWindow ⟨by decide, by decide⟩, C.2.2.2.2.1 _ k_417, C.2.2.2.2.1 _ k_5⟩ 7 zr_7 rfl rfl (fun _ _ _ _ h => h) (fun _ _ _ _ _ _ _ => trivial) rfl rfl (Nat.le_of_ble_eq_true rfl) d_Pl_plan_97 ⟨by decide, by decide⟩ (pc' := 100) rfl (fun r65 M66 hp67 => ?_)
              obtain ⟨hme, hp67⟩ := hp67
              rw [hme]
              clear hme
              rcases hp67 with ⟨hms, rfl⟩ | ⟨hms, rfl⟩
              ·
                refine xw_if_eq C (tgt := 105) d_Pl_plan_100 (by decide) (pc' := 103) rfl (fun h100 => ?_) (fun h100 => ?_)
                ·
                  replace h100 : 1 = 0 := (xp_eq0 (by omega)).mp h100
                  omega
                ·
                  replace h100 : ¬ (1 = 0) := fun hneg => h100 ((xp_eq0 (by omega)).mpr hneg)
                  refine xw_iconst C (v := nI 0) d_Pl_plan_103 (by decide) (pc' := 104) rfl ?_
                  refine xw_zret C hr hlk xp_n0 (F := zW ca ad) M64 rfl ?_ d_Pl_plan_104
                  refine ⟨hf4, Or.inr ⟨fun h9 => h9.2 (u + 1) (by omega) ?_, rfl⟩⟩
                  obtain ⟨t, q1, q2, q3⟩ := hms
                  exact ⟨t, q1, by rw [hsim]; exact q2, by rw [hsim]; exact q3⟩
              ·
                refine xw_if_eq C (tgt := 105) d_Pl_plan_100 (by decide) (pc' := 103) rfl (fun h100 => ?_) (fun h100 => ?_)
                ·
                  replace h100 : 0 = 0 := (xp_eq0 (by omega)).mp h100
                  refine xw_iinc C 6 (v := nI (u + 1)) d_Pl_plan_105 rfl (xp_inc1 _) (by decide) rfl (pc' := 108) rfl ?_
                  refine xw_goto C (tgt := 30) d_Pl_plan_108 (by decide) ?_
                  refine xw_lv [2, 3, 4, 5, 6, 0] rfl ?_
                  refine ih (xs_mx of n + h + h - (u + 1)) (by omega) (u + 1) M64 rfl (by omega) hf4 (by rw [hsim]; exact hP4) (fun x hx => ?_) hw4
                  rcases Nat.lt_or_ge x (u + 1) with d9 | d9
                  · exact hms1 x (by omega)
                  · rw [show x = u + 1 by omega]
                    intro h9
                    obtain ⟨t, q1, q2, q3⟩ := h9
                    rw [hsim] at q2 q3
                    exact hms ⟨t, q1, q2, q3⟩
                ·
                  replace h100 : ¬ (0 = 0) := fun hneg => h100 ((xp_eq0 (by omega)).mpr hneg)
                  omega
            ·
              replace h77 : ¬ (u < (xs_mx of n + h)) := fun hneg => h77 ((nI_ltI (by omega) (by omega)).mpr hneg)
              refine xw_aload_n C 3 d_Pl_plan_80 rfl rfl (pc' := 81) rfl ?_
              refine xw_iload C 6 d_Pl_plan_81 rfl (pc' := 83) rfl ?_
              refine xw_iload_n C 4 d_Pl_plan_83 rfl rfl (pc' := 84) rfl ?_
              refine xw_irem C d_Pl_plan_84 (nI_ne0 (by omega) (by omega)) (pc' := 85) rfl ?_
              refine xw_topi (y := nI (u % h)) (pk_rem (by omega) (by omega) (by omega)) ?_
              have hm84 : u % h < h := Nat.mod_lt _ (by omega)
              refine xw_iload C 0 d_Pl_plan_85 rfl (pc' := 87) rfl ?_
              obtain ⟨M68, hM68⟩ : ∃ z, z = zst M64 13 (u % h) (nI b) := ⟨_, rfl⟩
              refine xw_iast C 13 0 zr_13 rfl (u % h) rfl (by omega) (by decide) (ws' := zW ca ad M68) (by rw [hM68]; exact zs_13 _ _) d_Pl_plan_87 (pc' := 88) rfl ?_
              have hP4 : plOK M68 n (pl_w2 w1 (pl_pk w1 e1 n)) e1 := hP3.keep (fun b => by rw [hM68, zst_ap, if_neg (fun h9 => absurd h9.1 (by decide))]) (fun b => by rw [hM68, zst_ap, if_neg (fun h9 => absurd h9.1 (by decide))])
              have hf4 : ∀ a b, a ≠ 8 → a ≠ 9 → a ≠ 13 → M68 a b = M a b := fun a b h1 h2 h3 => by rw [hM68, zst_ap, if_neg (fun h9 => h3 h9.1)]; exact hf3 a b h1 h2 h3
              have hw4 : ∀ x, xs_mx of n + h ≤ x → x < u + 1 → M68 13 (x % h) = oI (pl_who n per wk dl of x) := fun x h1 h2 => by
                rw [hM68, zst_ap]
                by_cases d9 : x = u
                · subst d9; rw [if_pos ⟨rfl, rfl⟩, hwho, hk]; rfl
                · rw [if_neg (fun h9 : 13 = 13 ∧ x % h = u % h => d9 (xp_modinj (a := xs_mx of n + h) (by omega) (by omega) (by omega) h9.2)), ho3]; exact hw1s x h1 (by omega)
              refine xw_aload_n C 1 d_Pl_plan_88 rfl rfl (pc' := 89) rfl ?_
              have hszz : M68 1 0 = nI n := (hf4 _ _ (by decide) (by decide) (by decide)).trans hT.2.1
              refine xw_aload_n C 2 d_Pl_plan_89 rfl rfl (pc' := 90) rfl ?_
              refine xw_get C u_Tl 1 zr_1 rfl 1 (by decide) k_127 rfl rfl d_Pl_plan_90 (pc' := 93) rfl ?_
              refine xw_topi (y := nI n) hszz ?_
              refine xw_iload C 6 d_Pl_plan_93 rfl (pc' := 95) rfl ?_
              refine xw_iconst C (v := nI 1) d_Pl_plan_95 (by decide) (pc' := 96) rfl ?_
              refine xw_iadd C d_Pl_plan_96 (pc' := 97) rfl ?_
              refine xw_topi (y := nI (u + 1)) (nI_add _ _) ?_
              refine xw_callVi C (c_Pl_missesWindow l D ca ad M68 n (pl_w2 w1 (pl_pk w1 e1 n)) e1 (u + 1) (by omega) hP4 (by omega)) ⟨zg_B C 2 k_415 k_29 k_418 q_Pl_missesWindow ⟨by decide, by decide⟩, C.2.2.2.2.1 _ k_417, C.2.2.2.2.1 _ k_5⟩ 7 zr_7 rfl rfl (fun _ _ _ _ h => h) (fun _ _ _ _ _ _ _ => trivial) rfl rfl (Nat.le_of_ble_eq_true rfl) d_Pl_plan_97 ⟨by decide, by decide⟩ (pc' := 100) rfl (fun r69 M70 hp71 => ?_)
              obtain ⟨hme, hp71⟩ := hp71
              rw [hme]
              clear hme
              rcases hp71 with ⟨hms, rfl⟩ | ⟨hms, rfl⟩
              ·
                refine xw_if_eq C (tgt := 105) d_Pl_plan_100 (by decide) (pc' := 103) rfl (fun h100 => ?_) (fun h100 => ?_)
                ·
                  replace h100 : 1 = 0 := (xp_eq0 (by omega)).mp h100
                  omega
                ·
                  replace h100 : ¬ (1 = 0) := fun hneg => h100 ((xp_eq0 (by omega)).mpr hneg)
                  refine xw_iconst C (v := nI 0) d_Pl_plan_103 (by decide) (pc' := 104) rfl ?_
                  refine xw_zret C hr hlk xp_n0 (F := zW ca ad) M68 rfl ?_ d_Pl_plan_104
                  refine ⟨hf4, Or.inr ⟨fun h9 => h9.2 (u + 1) (by omega) ?_, rfl⟩⟩
                  obtain ⟨t, q1, q2, q3⟩ := hms
                  exact ⟨t, q1, by rw [hsim]; exact q2, by rw [hsim]; exact q3⟩
              ·
                refine xw_if_eq C (tgt := 105) d_Pl_plan_100 (by decide) (pc' := 103) rfl (fun h100 => ?_) (fun h100 => ?_)
                ·
                  replace h100 : 0 = 0 := (xp_eq0 (by omega)).mp h100
                  refine xw_iinc C 6 (v := nI (u + 1)) d_Pl_plan_105 rfl (xp_inc1 _) (by decide) rfl (pc' := 108) rfl ?_
                  refine xw_goto C (tgt := 30) d_Pl_plan_108 (by decide) ?_
                  refine xw_lv [2, 3, 4, 5, 6, 0] rfl ?_
                  refine ih (xs_mx of n + h + h - (u + 1)) (by omega) (u + 1) M68 rfl (by omega) hf4 (by rw [hsim]; exact hP4) (fun x hx => ?_) hw4
                  rcases Nat.lt_or_ge x (u + 1) with d9 | d9
                  · exact hms1 x (by omega)
                  · rw [show x = u + 1 by omega]
                    intro h9
                    obtain ⟨t, q1, q2, q3⟩ := h9
                    rw [hsim] at q2 q3
                    exact hms ⟨t, q1, q2, q3⟩
                ·
                  replace h100 : ¬ (0 = 0) := fun hneg => h100 ((xp_eq0 (by omega)).mpr hneg)
                  omega
  refine xw_lvE (lv' := [(0, .ref (ad 7)), (1, .ref (ad 1)), (2, .ref (ad 13)), (3, .int (nI h))]) rfl ?_
  refine xw_aload_n C 1 d_Pl_plan_0 rfl rfl (pc' := 1) rfl ?_
  refine xw_iload_n C 3 d_Pl_plan_1 rfl rfl (pc' := 2) rfl ?_
  refine xw_callVi C (c_Tl_workInRound l D ca ad M n per wk dl of h hT (by omega)) ⟨zg_B C 1 k_391 k_25 k_394 q_Tl_workInRound ⟨by decide, by decide⟩, C.2.2.2.2.1 _ k_392, C.2.2.2.2.1 _ k_393⟩ 1 zr_1 rfl rfl (fun _ _ _ _ h => h) (fun _ _ _ _ _ _ _ => trivial) rfl rfl (Nat.le_of_ble_eq_true rfl) d_Pl_plan_2 ⟨by decide, by decide⟩ (pc' := 5) rfl (fun r1 M2 hp3 => ?_)
  obtain ⟨hme, hre⟩ := hp3
  rw [hme, hre]
  clear hme hre
  refine xw_iload_n C 3 d_Pl_plan_5 rfl rfl (pc' := 6) rfl ?_
  refine xw_icmp_le C (tgt := 11) d_Pl_plan_6 (by decide) (pc' := 9) rfl (fun h6 => ?_) (fun h6 => ?_)
  ·
    replace h6 : (xs_sm (fun t => wk t * (h / per t)) n) ≤ h := (nI_leI (by omega) (by omega)).mp h6
    refine xw_aload_n C 0 d_Pl_plan_11 rfl rfl (pc' := 12) rfl ?_
    refine xw_get C u_Pl 7 zr_7 rfl 0 (by decide) k_160 rfl rfl d_Pl_plan_12 (pc' := 15) rfl ?_
    refine xw_iconst C (v := nI 0) d_Pl_plan_15 (by decide) (pc' := 16) rfl ?_
    refine xw_callSv C (c_Ar_fill l D ca ad M 8 6 (nI 0) (by decide) (fun _ => rfl) (by decide)) ⟨zg_B C 2 k_395 k_38 k_365 q_Ar_fill ⟨by decide, by decide⟩, C.2.2.2.2.1 _ k_364⟩ (fun _ _ _ _ h => h) (fun _ _ _ _ _ _ _ => trivial) rfl rfl (Nat.le_of_ble_eq_true rfl) d_Pl_plan_16 ⟨by decide, by decide⟩ (pc' := 19) rfl (fun M5 hp6 => ?_)
    have hM5 := hp6
    
    refine xw_aload_n C 1 d_Pl_plan_19 rfl rfl (pc' := 20) rfl ?_
    have hT0 : tkOK M5 n per wk dl of := hT.keep (by rw [hM5, zfl_ap, if_neg (fun h9 => absurd h9.1 (by decide))]) (fun t j ht => by rw [hM5, zfl_ap, if_neg (fun h9 => absurd h9.1 (by omega))])
    refine xw_callVi C (c_Tl_greatestOffset l D ca ad M5 n per wk dl of hT0) ⟨zg_B C 0 k_396 k_25 k_399 q_Tl_greatestOffset ⟨by decide, by decide⟩, C.2.2.2.2.1 _ k_397, C.2.2.2.2.1 _ k_398⟩ 1 zr_1 rfl rfl (fun _ _ _ _ h => h) (fun _ _ _ _ _ _ _ => trivial) rfl rfl (Nat.le_of_ble_eq_true rfl) d_Pl_plan_20 ⟨by decide, by decide⟩ (pc' := 23) rfl (fun r7 M8 hp9 => ?_)
    obtain ⟨hme, hre⟩ := hp9
    rw [hme, hre]
    clear hme hre
    refine xw_iload_n C 3 d_Pl_plan_23 rfl rfl (pc' := 24) rfl ?_
    refine xw_iadd C d_Pl_plan_24 (pc' := 25) rfl ?_
    refine xw_topi (y := nI ((xs_mx of n) + h)) (nI_add _ _) ?_
    refine xw_istore C d_Pl_plan_25 (by decide) rfl (pc' := 27) rfl ?_
    refine xw_iconst C (v := nI 0) d_Pl_plan_27 (by decide) (pc' := 28) rfl ?_
    refine xw_istore C d_Pl_plan_28 (by decide) rfl (pc' := 30) rfl ?_
    refine xw_lv [2, 3, 4, 5, 1, 0] rfl ?_
    refine loop1 (by omega) _ 0 M5 rfl (by omega) (fun a b h1 h2 h3 => by rw [hM5, zfl_ap, if_neg (fun h9 => h1 h9.1)]) (fun t ht => ⟨by rw [hM5, zfl_ap, if_pos ⟨rfl, by omega⟩]; rfl, fun h9 => absurd h9 (Nat.lt_irrefl 0), by show (0 : Nat) < _; omega, by show (0 : Nat) < _; omega⟩) (fun x hx => by rw [show x = 0 by omega]; exact pl_miss0) (fun x h1 h2 => by omega)
  ·
    replace h6 : ¬ ((xs_sm (fun t => wk t * (h / per t)) n) ≤ h) := fun hneg => h6 ((nI_leI (by omega) (by omega)).mpr hneg)
    refine xw_iconst C (v := nI 0) d_Pl_plan_9 (by decide) (pc' := 10) rfl ?_
    refine xw_zret C hr hlk xp_n0 (F := zW ca ad) M rfl ?_ d_Pl_plan_10
    exact ⟨fun _ _ _ _ _ => rfl, Or.inr ⟨fun h9 => by have := h9.1; omega, rfl⟩⟩
