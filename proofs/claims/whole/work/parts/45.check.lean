/-- windows and gaps are all ticks of the round, once each -/
theorem md_srv {g : Nat → Int32} {t h pr w dl o : Nat} (hp : 1 ≤ pr) (hd : dl ≤ pr) (hh : 0 < h) (hm : h % pr = 0) :
    ((∀ q, q < h / pr → sp_cnt g t h (o + q * pr) dl = w) ∧ xs_sm (fun j => if g j = nI t then 1 else 0) h = xs_sm (fun q => sp_cnt g t h (o + q * pr) dl) (h / pr)) ↔ sp_srv g t h pr w dl o := by
  obtain ⟨f, hf⟩ : ∃ zq : Nat → Nat, zq = fun x => if g (x % h) = nI t then 1 else 0 := ⟨_, rfl⟩
  have hper : ∀ x, f (x + h) = f x := fun x => by rw [hf]; simp only [Nat.add_mod_right]
  have hT : xs_sm (fun j => if g j = nI t then 1 else 0) h = xs_sm f h := xs_congr (fun j hj => by rw [hf]; simp only [Nat.mod_eq_of_lt hj])
  have hc : ∀ a m, sp_cnt g t h a m = xs_sm (fun j => f (a + j)) m := fun a m => by rw [hf]; rfl
  have hq : h / pr * pr = h := Nat.div_mul_cancel (Nat.dvd_of_mod_eq_zero hm)
  have hall : xs_sm f h = xs_sm (fun q => sp_cnt g t h (o + q * pr) dl) (h / pr) + xs_sm (fun q => sp_cnt g t h (o + q * pr + dl) (pr - dl)) (h / pr) := by
    rw [← xs_turn f h hper o, ← xs_plus]
    have e1 : xs_sm (fun j => f (o + j)) h = xs_sm (fun j => f (o + j)) (h / pr * pr) := by rw [hq]
    rw [e1, xs_blocks]
    refine xs_congr (fun q _ => ?_)
    rw [hc, hc]
    have e2 := xs_add (fun j => f (o + q * pr + j)) dl (pr - dl)
    rw [show dl + (pr - dl) = pr by omega] at e2
    have e3 : xs_sm (fun j => f (o + (q * pr + j))) pr = xs_sm (fun j => f (o + q * pr + j)) pr := xs_congr (fun j _ => by rw [Nat.add_assoc])
    rw [e3, e2]
    congr 1
    exact xs_congr (fun j _ => congrArg f (by omega))
  rw [hT, hall]
  constructor
  · rintro ⟨a, b⟩ q hq9
    have z : xs_sm (fun q => sp_cnt g t h (o + q * pr + dl) (pr - dl)) (h / pr) = 0 := by omega
    exact ⟨a q hq9, xs_zero.mp z q hq9⟩
  · intro a
    refine ⟨fun q hq9 => (a q hq9).1, ?_⟩
    have z : xs_sm (fun q => sp_cnt g t h (o + q * pr + dl) (pr - dl)) (h / pr) = 0 := xs_zero.mpr (fun q hq9 => (a q hq9).2)
    omega

set_option maxHeartbeats 4000000 in
set_option maxRecDepth 100000 in
/-- isServed -/
theorem c_Md_isServed (l : Launch) (D : va_G) (ca : Nat → ClassId) (ad : Nat → Nat) (M : Nat → Nat → Int32) (n : Nat) (per wk dl of : Nat → Nat) (k : Nat) (st ln tk : Nat → Nat) (t h : Nat) (hT : tmOK M n per wk dl of) (hS : smOK M k st ln tk) (ht : t < n) (hh1 : 1 ≤ h) (hh : h ≤ 240) (hcm : h % per t = 0) : xw_Mi l y_Md_isServed (.code y_Md_isServed b_Md_isServed 8 (some .boolean) :: zG) { frames := 1, cells := 0, slots := 0, locals := 23 } D zCl (zT ca) [.ref (ad 38), .int (nI t), .int (nI h)] (zW ca ad M) (fun _ => True) 0 0 (zW ca ad) (fun r M' => M' = M ∧ (sp_srv (fun x => oI (sp_at st ln tk k x)) t h (per t) (wk t) (dl t) (of t) ∧ r = nI 1 ∨ ¬ sp_srv (fun x => oI (sp_at st ln tk k x)) t h (per t) (wk t) (dl t) (of t) ∧ r = nI 0)) := by
  intro sz
  refine xw_met (cc := b_Md_isServed) (maxL := 8) (ret := (some .boolean)) (by decide) rfl (Nat.le_of_ble_eq_true rfl) (fun p e s m args below meth c hr hlk hnm hsz hKs C => ?_)
  have hn6 := hT.1
  have htt := hT.2.2 t ht
  have hdp : h / per t ≤ h := Nat.div_le_self _ _
  have loopK : ∀ (d : Nat) (i b a : Nat), h / per t - i = d → i ≤ h / per t → (b = 1 ∧ (∀ q, q < i → sp_cnt (fun x => oI (sp_at st ln tk k x)) t h (of t + q * per t) (dl t) = wk t) ∨ b = 0 ∧ ¬ ∀ q, q < h / per t → sp_cnt (fun x => oI (sp_at st ln tk k x)) t h (of t + q * per t) (dl t) = wk t) → a = xs_sm (fun q => sp_cnt (fun x => oI (sp_at st ln tk k x)) t h (of t + q * per t) (dl t)) i → XW p l e { frames := 1, cells := 0, slots := 0, locals := 23 } s m args below meth c D zCl (va_A (zW ca ad M) sz) s.heap 8 (zW ca ad M) 0 0 (MQ below (va_Qi (fun r M' => M' = M ∧ (sp_srv (fun x => oI (sp_at st ln tk k x)) t h (per t) (wk t) (dl t) (of t) ∧ r = nI 1 ∨ ¬ sp_srv (fun x => oI (sp_at st ln tk k x)) t h (per t) (wk t) (dl t) (of t) ∧ r = nI 0)) (xw_B D zCl (zT ca) (va_A (zW ca ad M) sz) (zW ca ad)) (va_A (zW ca ad M) sz)) args s 0 0 (va_A (zW ca ad M) sz)) 8 [(0, .ref (ad 38)), (1, .int (nI t)), (2, .int (nI h)), (3, .int (nI b)), (4, .int (nI a)), (5, .int (nI i))] [] := by
    intro d
    induction d using Nat.strongRecOn with
    | _ d ih =>
      intro i b a hd hi hB hA
      have hb2 : b ≤ 1 := by rcases hB with r | r <;> omega
      refine xw_iload C 5 d_Md_isServed_8 rfl (pc' := 10) rfl ?_
      refine xw_iload_n C 2 d_Md_isServed_10 rfl rfl (pc' := 11) rfl ?_
      refine xw_aload_n C 0 d_Md_isServed_11 rfl rfl (pc' := 12) rfl ?_
      refine xw_get C u_Md 38 zr_38 rfl 3 (by decide) k_573 rfl rfl d_Md_isServed_12 (pc' := 15) rfl ?_
      refine xw_iload_n C 1 d_Md_isServed_15 rfl rfl (pc' := 16) rfl ?_
      refine xw_iald C 39 0 zr_39 rfl t rfl (by omega) (by decide) d_Md_isServed_16 (pc' := 17) rfl ?_
      refine xw_topi (y := nI (per t)) htt.1 ?_
      refine xw_idiv C d_Md_isServed_17 (nI_ne0 (by omega) (by omega)) (pc' := 18) rfl ?_
      refine xw_topi (y := nI (h / (per t))) (pk_div (by omega) (by omega) (by omega)) ?_
      have hm17 : h / (per t) ≤ h := Nat.div_le_self _ _
      refine xw_icmp_ge C (tgt := 118) d_Md_isServed_18 (by decide) (pc' := 21) rfl (fun h18 => ?_) (fun h18 => ?_)
      ·
        replace h18 : (h / (per t)) ≤ i := (nI_leI (by omega) (by omega)).mp h18
        refine xw_iconst C (v := nI 0) d_Md_isServed_118 (by decide) (pc' := 119) rfl ?_
        refine xw_istore C d_Md_isServed_119 (by decide) rfl (pc' := 121) rfl ?_
        refine xw_iconst C (v := nI 0) d_Md_isServed_121 (by decide) (pc' := 122) rfl ?_
        refine xw_istore C d_Md_isServed_122 (by decide) rfl (pc' := 124) rfl ?_
        refine xw_lv [2, 3, 4, 5, 6, 1, 0] rfl ?_
        have loopC : ∀ (d3 : Nat) (u q : Nat), h - u = d3 → u ≤ h → q = xs_sm (fun j => if (fun x => oI (sp_at st ln tk k x)) j = nI t then 1 else 0) u → q ≤ u → XW p l e { frames := 1, cells := 0, slots := 0, locals := 23 } s m args below meth c D zCl (va_A (zW ca ad M) sz) s.heap 8 (zW ca ad M) 0 0 (MQ below (va_Qi (fun r M' => M' = M ∧ (sp_srv (fun x => oI (sp_at st ln tk k x)) t h (per t) (wk t) (dl t) (of t) ∧ r = nI 1 ∨ ¬ sp_srv (fun x => oI (sp_at st ln tk k x)) t h (per t) (wk t) (dl t) (of t) ∧ r = nI 0)) (xw_B D zCl (zT ca) (va_A (zW ca ad M) sz) (zW ca ad)) (va_A (zW ca ad M) sz)) args s 0 0 (va_A (zW ca ad M) sz)) 124 [(0, .ref (ad 38)), (1, .int (nI t)), (2, .int (nI h)), (3, .int (nI b)), (4, .int (nI a)), (5, .int (nI q)), (6, .int (nI u))] [] := by
          intro d3
          induction d3 using Nat.strongRecOn with
          | _ d3 ih3 =>
            intro u q hd3 hu hq hqu
            refine xw_iload C 6 d_Md_isServed_124 rfl (pc' := 126) rfl ?_
            refine xw_iload_n C 2 d_Md_isServed_126 rfl rfl (pc' := 127) rfl ?_
            refine xw_icmp_ge C (tgt := 157) d_Md_isServed_127 (by decide) (pc' := 130) rfl (fun h127 => ?_) (fun h127 => ?_)
            ·
              replace h127 : h ≤ u := (nI_leI (by omega) (by omega)).mp h127
              refine xw_iload_n C 3 d_Md_isServed_157 rfl rfl (pc' := 158) rfl ?_
              refine xw_if_eq C (tgt := 172) d_Md_isServed_158 (by decide) (pc' := 161) rfl (fun h158 => ?_) (fun h158 => ?_)
              ·
                replace h158 : b = 0 := (xp_eq0 (by omega)).mp h158
                refine xw_iconst C (v := nI 0) d_Md_isServed_172 (by decide) (pc' := 173) rfl ?_
                refine xw_zret C hr hlk xp_n0 (F := zW ca ad) M rfl ?_ d_Md_isServed_173
                refine ⟨rfl, Or.inr ⟨fun h9 => ?_, rfl⟩⟩
                have h8 := (md_srv (by omega) (by omega) (by omega) hcm).mpr h9
                rcases hB with r | r
                · first
                  | omega
                  | exact h165 (by rw [hq, hA, show u = h by omega, show i = h / per t by omega]; exact h8.2)
                · exact r.2 h8.1
              ·
                replace h158 : ¬ (b = 0) := fun hneg => h158 ((xp_eq0 (by omega)).mpr hneg)
                refine xw_iload C 5 d_Md_isServed_161 rfl (pc' := 163) rfl ?_
                refine xw_iload C 4 d_Md_isServed_163 rfl (pc' := 165) rfl ?_
                have haa : a ≤ h / per t * 48 := by rw [hA]; exact Nat.le_trans (xs_sm_le (b := 48) (fun q9 h9 => Nat.le_trans (sp_cnt_le _ _ _ _ _) (by omega))) (Nat.mul_le_mul_right 48 (by omega))
                have hdv : h / per t ≤ h := Nat.div_le_self _ _
                refine xw_icmp_ne C (tgt := 172) d_Md_isServed_165 (by decide) (pc' := 168) rfl (fun h165 => ?_) (fun h165 => ?_)
                ·
                  replace h165 : ¬ (q = a) := fun hneg => h165 ((nI_eq (by omega) (by omega)).mpr hneg)
                  refine xw_iconst C (v := nI 0) d_Md_isServed_172 (by decide) (pc' := 173) rfl ?_
                  refine xw_zret C hr hlk xp_n0 (F := zW ca ad) M rfl ?_ d_Md_isServed_173
                  refine ⟨rfl, Or.inr ⟨fun h9 => ?_, rfl⟩⟩
                  have h8 := (md_srv (by omega) (by omega) (by omega) hcm).mpr h9
                  rcases hB with r | r
                  · first
                    | omega
                    | exact h165 (by rw [hq, hA, show u = h by omega, show i = h / per t by omega]; exact h8.2)
                  · exact r.2 h8.1
                ·
                  replace h165 : q = a := (nI_eq (by omega) (by omega)).mp h165
                  refine xw_iconst C (v := nI 1) d_Md_isServed_168 (by decide) (pc' := 169) rfl ?_
                  refine xw_goto C (tgt := 173) d_Md_isServed_169 (by decide) ?_
                  refine xw_zret C hr hlk xp_n1 (F := zW ca ad) M rfl ?_ d_Md_isServed_173
                  refine ⟨rfl, Or.inl ⟨(md_srv (by omega) (by omega) (by omega) hcm).mp ⟨?_, ?_⟩, rfl⟩⟩
                  · rcases hB with r | r
                    · rw [show i = h / per t by omega] at r; exact r.2
                    · omega
                  · rw [← show i = h / per t by omega, ← hA, ← h165, hq, show u = h by omega]
            ·
              replace h127 : ¬ (h ≤ u) := fun hneg => h127 ((nI_leI (by omega) (by omega)).mpr hneg)
              refine xw_aload_n C 0 d_Md_isServed_130 rfl rfl (pc' := 131) rfl ?_
              refine xw_iload C 6 d_Md_isServed_131 rfl (pc' := 133) rfl ?_
              refine xw_callVi C (c_Md_at l D ca ad M k st ln tk u hS (by omega)) ⟨zg_B C 1 k_722 k_31 k_725 q_Md_at ⟨by decide, by decide⟩, C.2.2.2.2.1 _ k_724, C.2.2.2.2.1 _ k_19⟩ 38 zr_38 rfl rfl (fun _ _ _ _ h => h) (fun _ _ _ _ _ _ _ => trivial) rfl rfl (Nat.le_of_ble_eq_true rfl) d_Md_isServed_133 ⟨by decide, by decide⟩ (pc' := 136) rfl (fun r151 M152 hp153 => ?_)
              obtain ⟨hme, hre⟩ := hp153
              rw [hme, hre]
              clear hme hre
              refine xw_iload_n C 1 d_Md_isServed_136 rfl rfl (pc' := 137) rfl ?_
              refine xw_icmp_ne C (tgt := 147) d_Md_isServed_137 (by decide) (pc' := 140) rfl (fun h137 => ?_) (fun h137 => ?_)
              ·
                refine xw_iload C 5 d_Md_isServed_147 rfl (pc' := 149) rfl ?_
                refine xw_istore C d_Md_isServed_149 (by decide) rfl (pc' := 151) rfl ?_
                refine xw_iinc C 6 (v := nI (u + 1)) d_Md_isServed_151 rfl (xp_inc1 _) (by decide) rfl (pc' := 154) rfl ?_
                refine xw_goto C (tgt := 124) d_Md_isServed_154 (by decide) ?_
                refine xw_lv [2, 3, 4, 5, 6, 1, 0] rfl ?_
                exact ih3 (h - (u + 1)) (by omega) (u + 1) q rfl (by omega) (by rw [hq]; show _ = xs_sm _ u + (if _ then _ else _); rw [if_neg h137]; rfl) (by omega)
              ·
                refine xw_iload C 5 d_Md_isServed_140 rfl (pc' := 142) rfl ?_
                refine xw_iconst C (v := nI 1) d_Md_isServed_142 (by decide) (pc' := 143) rfl ?_
                refine xw_iadd C d_Md_isServed_143 (pc' := 144) rfl ?_
                refine xw_topi (y := nI (q + 1)) (nI_add _ _) ?_
                refine xw_goto C (tgt := 149) d_Md_isServed_144 (by decide) ?_
                refine xw_istore C d_Md_isServed_149 (by decide) rfl (pc' := 151) rfl ?_
                refine xw_iinc C 6 (v := nI (u + 1)) d_Md_isServed_151 rfl (xp_inc1 _) (by decide) rfl (pc' := 154) rfl ?_
                refine xw_goto C (tgt := 124) d_Md_isServed_154 (by decide) ?_
                refine xw_lv [2, 3, 4, 5, 6, 1, 0] rfl ?_
                exact ih3 (h - (u + 1)) (by omega) (u + 1) (q + 1) rfl (by omega) (by rw [hq]; show _ = xs_sm _ u + (if _ then _ else _); rw [if_pos h137]) (by omega)
        exact loopC h 0 0 rfl (by omega) rfl (by omega)
      ·
        replace h18 : ¬ ((h / (per t)) ≤ i) := fun hneg => h18 ((nI_leI (by omega) (by omega)).mpr hneg)
        refine xw_iconst C (v := nI 0) d_Md_isServed_21 (by decide) (pc' := 22) rfl ?_
        refine xw_istore C d_Md_isServed_22 (by decide) rfl (pc' := 24) rfl ?_
        refine xw_iconst C (v := nI 0) d_Md_isServed_24 (by decide) (pc' := 25) rfl ?_
        refine xw_istore C d_Md_isServed_25 (by decide) rfl (pc' := 27) rfl ?_
        refine xw_lv [2, 3, 4, 5, 6, 7, 1, 0] rfl ?_
        have loopJ : ∀ (d2 : Nat) (j q : Nat), dl t - j = d2 → j ≤ dl t → q = sp_cnt (fun x => oI (sp_at st ln tk k x)) t h (of t + i * per t) j → XW p l e { frames := 1, cells := 0, slots := 0, locals := 23 } s m args below meth c D zCl (va_A (zW ca ad M) sz) s.heap 8 (zW ca ad M) 0 0 (MQ below (va_Qi (fun r M' => M' = M ∧ (sp_srv (fun x => oI (sp_at st ln tk k x)) t h (per t) (wk t) (dl t) (of t) ∧ r = nI 1 ∨ ¬ sp_srv (fun x => oI (sp_at st ln tk k x)) t h (per t) (wk t) (dl t) (of t) ∧ r = nI 0)) (xw_B D zCl (zT ca) (va_A (zW ca ad M) sz) (zW ca ad)) (va_A (zW ca ad M) sz)) args s 0 0 (va_A (zW ca ad M) sz)) 27 [(0, .ref (ad 38)), (1, .int (nI t)), (2, .int (nI h)), (3, .int (nI b)), (4, .int (nI a)), (5, .int (nI i)), (6, .int (nI q)), (7, .int (nI j))] [] := by
          intro d2
          induction d2 using Nat.strongRecOn with
          | _ d2 ih2 =>
            intro j q hd2 hj hq
            have hqj : q ≤ j := by rw [hq]; exact sp_cnt_le _ _ _ _ _
            refine xw_iload C 7 d_Md_isServed_27 rfl (pc' := 29) rfl ?_
            refine xw_aload_n C 0 d_Md_isServed_29 rfl rfl (pc' := 30) rfl ?_
            refine xw_get C u_Md 38 zr_38 rfl 5 (by decide) k_575 rfl rfl d_Md_isServed_30 (pc' := 33) rfl ?_
            refine xw_iload_n C 1 d_Md_isServed_33 rfl rfl (pc' := 34) rfl ?_
            refine xw_iald C 41 0 zr_41 rfl t rfl (by omega) (by decide) d_Md_isServed_34 (pc' := 35) rfl ?_
            refine xw_topi (y := nI (dl t)) htt.2.2.1 ?_
            refine xw_icmp_ge C (tgt := 84) d_Md_isServed_35 (by decide) (pc' := 38) rfl (fun h35 => ?_) (fun h35 => ?_)
            ·
              replace h35 : (dl t) ≤ j := (nI_leI (by omega) (by omega)).mp h35
              refine xw_iload_n C 3 d_Md_isServed_84 rfl rfl (pc' := 85) rfl ?_
              refine xw_if_eq C (tgt := 103) d_Md_isServed_85 (by decide) (pc' := 88) rfl (fun h85 => ?_) (fun h85 => ?_)
              ·
                replace h85 : b = 0 := (xp_eq0 (by omega)).mp h85
                refine xw_iconst C (v := nI 0) d_Md_isServed_103 (by decide) (pc' := 104) rfl ?_
                refine xw_istore_n C d_Md_isServed_104 rfl (by decide) rfl (pc' := 105) rfl ?_
                refine xw_iload C 4 d_Md_isServed_105 rfl (pc' := 107) rfl ?_
                refine xw_iload C 6 d_Md_isServed_107 rfl (pc' := 109) rfl ?_
                refine xw_iadd C d_Md_isServed_109 (pc' := 110) rfl ?_
                refine xw_topi (y := nI (a + q)) (nI_add _ _) ?_
                refine xw_istore C d_Md_isServed_110 (by decide) rfl (pc' := 112) rfl ?_
                refine xw_iinc C 5 (v := nI (i + 1)) d_Md_isServed_112 rfl (xp_inc1 _) (by decide) rfl (pc' := 115) rfl ?_
                refine xw_goto C (tgt := 8) d_Md_isServed_115 (by decide) ?_
                refine xw_lv [3, 4, 5, 2, 1, 0] rfl ?_
                refine ih (h / per t - (i + 1)) (by omega) (i + 1) 0 (a + q) rfl (by omega) ?_ (by rw [hA, hq, show j = dl t by omega]; rfl)
                · refine Or.inr ⟨rfl, ?_⟩
                  rcases hB with r | r
                  · first
                    | omega
                    | exact fun h9 => h96 (by rw [hq, show j = dl t by omega]; exact h9 i (by omega))
                  · exact r.2
              ·
                replace h85 : ¬ (b = 0) := fun hneg => h85 ((xp_eq0 (by omega)).mpr hneg)
                refine xw_iload C 6 d_Md_isServed_88 rfl (pc' := 90) rfl ?_
                refine xw_aload_n C 0 d_Md_isServed_90 rfl rfl (pc' := 91) rfl ?_
                refine xw_get C u_Md 38 zr_38 rfl 4 (by decide) k_574 rfl rfl d_Md_isServed_91 (pc' := 94) rfl ?_
                refine xw_iload_n C 1 d_Md_isServed_94 rfl rfl (pc' := 95) rfl ?_
                refine xw_iald C 40 0 zr_40 rfl t rfl (by omega) (by decide) d_Md_isServed_95 (pc' := 96) rfl ?_
                refine xw_topi (y := nI (wk t)) htt.2.1 ?_
                refine xw_icmp_ne C (tgt := 103) d_Md_isServed_96 (by decide) (pc' := 99) rfl (fun h96 => ?_) (fun h96 => ?_)
                ·
                  replace h96 : ¬ (q = (wk t)) := fun hneg => h96 ((nI_eq (by omega) (by omega)).mpr hneg)
                  refine xw_iconst C (v := nI 0) d_Md_isServed_103 (by decide) (pc' := 104) rfl ?_
                  refine xw_istore_n C d_Md_isServed_104 rfl (by decide) rfl (pc' := 105) rfl ?_
                  refine xw_iload C 4 d_Md_isServed_105 rfl (pc' := 107) rfl ?_
                  refine xw_iload C 6 d_Md_isServed_107 rfl (pc' := 109) rfl ?_
                  refine xw_iadd C d_Md_isServed_109 (pc' := 110) rfl ?_
                  refine xw_topi (y := nI (a + q)) (nI_add _ _) ?_
                  refine xw_istore C d_Md_isServed_110 (by decide) rfl (pc' := 112) rfl ?_
                  refine xw_iinc C 5 (v := nI (i + 1)) d_Md_isServed_112 rfl (xp_inc1 _) (by decide) rfl (pc' := 115) rfl ?_
                  refine xw_goto C (tgt := 8) d_Md_isServed_115 (by decide) ?_
                  refine xw_lv [3, 4, 5, 2, 1, 0] rfl ?_
                  refine ih (h / per t - (i + 1)) (by omega) (i + 1) 0 (a + q) rfl (by omega) ?_ (by rw [hA, hq, show j = dl t by omega]; rfl)
                  · refine Or.inr ⟨rfl, ?_⟩
                    rcases hB with r | r
                    · first
                      | omega
                      | exact fun h9 => h96 (by rw [hq, show j = dl t by omega]; exact h9 i (by omega))
                    · exact r.2
                ·
                  replace h96 : q = (wk t) := (nI_eq (by omega) (by omega)).mp h96
                  refine xw_iconst C (v := nI 1) d_Md_isServed_99 (by decide) (pc' := 100) rfl ?_
                  refine xw_goto C (tgt := 104) d_Md_isServed_100 (by decide) ?_
                  refine xw_istore_n C d_Md_isServed_104 rfl (by decide) rfl (pc' := 105) rfl ?_
                  refine xw_iload C 4 d_Md_isServed_105 rfl (pc' := 107) rfl ?_
                  refine xw_iload C 6 d_Md_isServed_107 rfl (pc' := 109) rfl ?_
                  refine xw_iadd C d_Md_isServed_109 (pc' := 110) rfl ?_
                  refine xw_topi (y := nI (a + q)) (nI_add _ _) ?_
                  refine xw_istore C d_Md_isServed_110 (by decide) rfl (pc' := 112) rfl ?_
                  refine xw_iinc C 5 (v := nI (i + 1)) d_Md_isServed_112 rfl (xp_inc1 _) (by decide) rfl (pc' := 115) rfl ?_
                  refine xw_goto C (tgt := 8) d_Md_isServed_115 (by decide) ?_
                  refine xw_lv [3, 4, 5, 2, 1, 0] rfl ?_
                  refine ih (h / per t - (i + 1)) (by omega) (i + 1) 1 (a + q) rfl (by omega) ?_ (by rw [hA, hq, show j = dl t by omega]; rfl)
                  · refine Or.inl ⟨rfl, fun x hx => ?_⟩
                    rcases Nat.lt_or_ge x i with c9 | c9
                    · rcases hB with r | r
                      · exact r.2 x c9
                      · omega
                    · rw [show x = i by omega, ← h96, hq, show j = dl t by omega]
            ·
              replace h35 : ¬ ((dl t) ≤ j) := fun hneg => h35 ((nI_leI (by omega) (by omega)).mpr hneg)
              refine xw_aload_n C 0 d_Md_isServed_38 rfl rfl (pc' := 39) rfl ?_
              refine xw_aload_n C 0 d_Md_isServed_39 rfl rfl (pc' := 40) rfl ?_
              refine xw_get C u_Md 38 zr_38 rfl 6 (by decide) k_576 rfl rfl d_Md_isServed_40 (pc' := 43) rfl ?_
              refine xw_iload_n C 1 d_Md_isServed_43 rfl rfl (pc' := 44) rfl ?_
              refine xw_iald C 42 0 zr_42 rfl t rfl (by omega) (by decide) d_Md_isServed_44 (pc' := 45) rfl ?_
              refine xw_topi (y := nI (of t)) htt.2.2.2.1 ?_
              refine xw_iload C 5 d_Md_isServed_45 rfl (pc' := 47) rfl ?_
              refine xw_aload_n C 0 d_Md_isServed_47 rfl rfl (pc' := 48) rfl ?_
              refine xw_get C u_Md 38 zr_38 rfl 3 (by decide) k_573 rfl rfl d_Md_isServed_48 (pc' := 51) rfl ?_
              refine xw_iload_n C 1 d_Md_isServed_51 rfl rfl (pc' := 52) rfl ?_
              refine xw_iald C 39 0 zr_39 rfl t rfl (by omega) (by decide) d_Md_isServed_52 (pc' := 53) rfl ?_
              refine xw_topi (y := nI (per t)) htt.1 ?_
              have hb1 : i * per t ≤ h := Nat.le_trans (Nat.mul_le_mul_right (per t) (by omega : i ≤ h / per t)) (Nat.div_mul_le_self h (per t))
              refine xw_imul C d_Md_isServed_53 (pc' := 54) rfl ?_
              refine xw_topi (y := nI (i * (per t))) (pk_mul _ _) ?_
              refine xw_iadd C d_Md_isServed_54 (pc' := 55) rfl ?_
              refine xw_topi (y := nI ((of t) + (i * (per t)))) (nI_add _ _) ?_
              refine xw_iload C 7 d_Md_isServed_55 rfl (pc' := 57) rfl ?_
              refine xw_iadd C d_Md_isServed_57 (pc' := 58) rfl ?_
              refine xw_topi (y := nI (((of t) + (i * (per t))) + j)) (nI_add _ _) ?_
              refine xw_iload_n C 2 d_Md_isServed_58 rfl rfl (pc' := 59) rfl ?_
              refine xw_irem C d_Md_isServed_59 (nI_ne0 (by omega) (by omega)) (pc' := 60) rfl ?_
              refine xw_topi (y := nI ((((of t) + (i * (per t))) + j) % h)) (pk_rem (by omega) (by omega) (by omega)) ?_
              have hm59 : (((of t) + (i * (per t))) + j) % h < h := Nat.mod_lt _ (by omega)
              refine xw_callVi C (c_Md_at l D ca ad M k st ln tk ((((of t) + (i * (per t))) + j) % h) hS (by omega)) ⟨zg_B C 1 k_722 k_31 k_725 q_Md_at ⟨by decide, by decide⟩, C.2.2.2.2.1 _ k_724, C.2.2.2.2.1 _ k_19⟩ 38 zr_38 rfl rfl (fun _ _ _ _ h => h) (fun _ _ _ _ _ _ _ => trivial) rfl rfl (Nat.le_of_ble_eq_true rfl) d_Md_isServed_60 ⟨by decide, by decide⟩ (pc' := 63) rfl (fun r101 M102 hp103 => ?_)
              obtain ⟨hme, hre⟩ := hp103
              rw [hme, hre]
              clear hme hre
              refine xw_iload_n C 1 d_Md_isServed_63 rfl rfl (pc' := 64) rfl ?_
              refine xw_icmp_ne C (tgt := 74) d_Md_isServed_64 (by decide) (pc' := 67) rfl (fun h64 => ?_) (fun h64 => ?_)
              ·
                refine xw_iload C 6 d_Md_isServed_74 rfl (pc' := 76) rfl ?_
                refine xw_istore C d_Md_isServed_76 (by decide) rfl (pc' := 78) rfl ?_
                refine xw_iinc C 7 (v := nI (j + 1)) d_Md_isServed_78 rfl (xp_inc1 _) (by decide) rfl (pc' := 81) rfl ?_
                refine xw_goto C (tgt := 27) d_Md_isServed_81 (by decide) ?_
                refine xw_lv [2, 3, 4, 5, 6, 7, 1, 0] rfl ?_
                exact ih2 (dl t - (j + 1)) (by omega) (j + 1) q rfl (by omega) (by rw [hq]; exact (sp_cnt_s0 h64).symm)
              ·
                refine xw_iload C 6 d_Md_isServed_67 rfl (pc' := 69) rfl ?_
                refine xw_iconst C (v := nI 1) d_Md_isServed_69 (by decide) (pc' := 70) rfl ?_
                refine xw_iadd C d_Md_isServed_70 (pc' := 71) rfl ?_
                refine xw_topi (y := nI (q + 1)) (nI_add _ _) ?_
                refine xw_goto C (tgt := 76) d_Md_isServed_71 (by decide) ?_
                refine xw_istore C d_Md_isServed_76 (by decide) rfl (pc' := 78) rfl ?_
                refine xw_iinc C 7 (v := nI (j + 1)) d_Md_isServed_78 rfl (xp_inc1 _) (by decide) rfl (pc' := 81) rfl ?_
                refine xw_goto C (tgt := 27) d_Md_isServed_81 (by decide) ?_
                refine xw_lv [2, 3, 4, 5, 6, 7, 1, 0] rfl ?_
                exact ih2 (dl t - (j + 1)) (by omega) (j + 1) (q + 1) rfl (by omega) (by rw [hq]; exact (sp_cnt_s1 h64).symm)
        exact loopJ (dl t) 0 0 rfl (by omega) rfl
  refine xw_lvE (lv' := [(0, .ref (ad 38)), (1, .int (nI t)), (2, .int (nI h))]) rfl ?_
  refine xw_iconst C (v := nI 1) d_Md_isServed_0 (by decide) (pc' := 1) rfl ?_
  refine xw_istore_n C d_Md_isServed_1 rfl (by decide) rfl (pc' := 2) rfl ?_
  refine xw_iconst C (v := nI 0) d_Md_isServed_2 (by decide) (pc' := 3) rfl ?_
  refine xw_istore C d_Md_isServed_3 (by decide) rfl (pc' := 5) rfl ?_
  refine xw_iconst C (v := nI 0) d_Md_isServed_5 (by decide) (pc' := 6) rfl ?_
  refine xw_istore C d_Md_isServed_6 (by decide) rfl (pc' := 8) rfl ?_
  refine xw_lv [3, 4, 5, 2, 1, 0] rfl ?_
  exact loopK (h / per t) 0 1 0 rfl (Nat.zero_le _) (Or.inl ⟨rfl, fun q hq => by omega⟩) rfl

theorem sp_cov_le (st ln : Nat → Nat) (k u : Nat) : sp_cov st ln k u ≤ k := by
  induction k with
  | zero => exact Nat.le_refl _
  | succ k ih =>
    by_cases c : st k ≤ u ∧ u < st k + ln k
    · rw [sp_cov_1 c]; omega
    · rw [sp_cov_0 c]; omega

set_option maxHeartbeats 4000000 in
set_option maxRecDepth 100000 in
/-- isGood -/
theorem c_Md_isGood (l : Launch) (D : va_G) (ca : Nat → ClassId) (ad : Nat → Nat) (M : Nat → Nat → Int32) (n : Nat) (per wk dl of : Nat → Nat) (k : Nat) (st ln tk : Nat → Nat) (hT : tmOK M n per wk dl of) (hS : smOK M k st ln tk) : xw_Mi l y_Md_isGood (.code y_Md_isGood b_Md_isGood 4 (some .boolean) :: zG) { frames := 2, cells := 0, slots := 0, locals := 50 } D zCl (zT ca) [.ref (ad 38)] (zW ca ad M) (fun _ => True) 0 0 (zW ca ad) (fun r M' => M' = M ∧ ((∃ h, sp_chk n per wk dl of k st ln tk h) ∧ r = nI 1 ∨ ¬ (∃ h, sp_chk n per wk dl of k st ln tk h) ∧ r = nI 0)) := by
  intro sz
  refine xw_met (cc := b_Md_isGood) (maxL := 4) (ret := (some .boolean)) (by decide) rfl (Nat.le_of_ble_eq_true rfl) (fun p e s m args below meth c hr hlk hnm hsz hKs C => ?_)
  have hn6 := hT.1
  have hk60 := hS.2.1
  have loop3 : ∀ H, ((sp_rd n per H ∧ H ≤ 240) ∨ (sp_no n per ∧ H = 241)) → ∀ (d : Nat) (i g : Nat), n - i = d → i ≤ n → (g = 1 ∧ H ≤ 240 ∧ sp_tab st ln k H ∧ (∀ t, t < i → sp_srv (fun x => oI (sp_at st ln tk k x)) t H (per t) (wk t) (dl t) (of t)) ∨ g = 0 ∧ ¬ (∃ h, sp_chk n per wk dl of k st ln tk h)) → XW p l e { frames := 2, cells := 0, slots := 0, locals := 50 } s m args below meth c D zCl (va_A (zW ca ad M) sz) s.heap 4 (zW ca ad M) 0 0 (MQ below (va_Qi (fun r M' => M' = M ∧ ((∃ h, sp_chk n per wk dl of k st ln tk h) ∧ r = nI 1 ∨ ¬ (∃ h, sp_chk n per wk dl of k st ln tk h) ∧ r = nI 0)) (xw_B D zCl (zT ca) (va_A (zW ca ad M) sz) (zW ca ad)) (va_A (zW ca ad M) sz)) args s 0 0 (va_A (zW ca ad M) sz)) 95 [(0, .ref (ad 38)), (1, .int (nI H)), (2, .int (nI g)), (3, .int (nI i))] [] := by
    intro H hH d
    have hHx : H ≤ 241 := by rcases hH with q | q <;> omega
    induction d using Nat.strongRecOn with
    | _ d ih =>
      intro i g hd hi hI
      have hg1 : g ≤ 1 := by rcases hI with r | r <;> omega
      refine xw_iload_n C 3 d_Md_isGood_95 rfl rfl (pc' := 96) rfl ?_
      refine xw_aload_n C 0 d_Md_isGood_96 rfl rfl (pc' := 97) rfl ?_
      refine xw_get C u_Md 38 zr_38 rfl 2 (by decide) k_572 rfl rfl d_Md_isGood_97 (pc' := 100) rfl ?_
      refine xw_topi (y := nI n) hT.2.1 ?_
      refine xw_icmp_ge C (tgt := 120) d_Md_isGood_100 (by decide) (pc' := 103) rfl (fun h100 => ?_) (fun h100 => ?_)
      ·
        replace h100 : n ≤ i := (nI_leI (by omega) (by omega)).mp h100
        refine xw_iload_n C 2 d_Md_isGood_120 rfl rfl (pc' := 121) rfl ?_
        refine xw_zret C hr hlk (by rcases hI with r | r <;> rw [r.1] <;> decide +kernel) (F := zW ca ad) M rfl ?_ d_Md_isGood_121
        rcases hI with r | r
        · rw [r.1]
          rcases hH with q | q
          · exact ⟨rfl, Or.inl ⟨⟨H, q.1, r.2.2.1, fun t ht => r.2.2.2 t (by omega)⟩, rfl⟩⟩
          · omega
        · rw [r.1]; exact ⟨rfl, Or.inr ⟨r.2, rfl⟩⟩
      ·
        replace h100 : ¬ (n ≤ i) := fun hneg => h100 ((nI_leI (by omega) (by omega)).mpr hneg)
        refine xw_iload_n C 2 d_Md_isGood_103 rfl rfl (pc' := 104) rfl ?_
        refine xw_if_eq C (tgt := 120) d_Md_isGood_104 (by decide) (pc' := 107) rfl (fun h104 => ?_) (fun h104 => ?_)
        ·
          replace h104 : g = 0 := (xp_eq0 (by omega)).mp h104
          refine xw_iload_n C 2 d_Md_isGood_120 rfl rfl (pc' := 121) rfl ?_
          refine xw_zret C hr hlk (by rcases hI with r | r <;> rw [r.1] <;> decide +kernel) (F := zW ca ad) M rfl ?_ d_Md_isGood_121
          rcases hI with r | r
          · rw [r.1]
            rcases hH with q | q
            · exact ⟨rfl, Or.inl ⟨⟨H, q.1, r.2.2.1, fun t ht => r.2.2.2 t (by omega)⟩, rfl⟩⟩
            · omega
          · rw [r.1]; exact ⟨rfl, Or.inr ⟨r.2, rfl⟩⟩
        ·
          replace h104 : ¬ (g = 0) := fun hneg => h104 ((xp_eq0 (by omega)).mpr hneg)
          refine xw_aload_n C 0 d_Md_isGood_107 rfl rfl (pc' := 108) rfl ?_
          refine xw_iload_n C 3 d_Md_isGood_108 rfl rfl (pc' := 109) rfl ?_
          refine xw_iload_n C 1 d_Md_isGood_109 rfl rfl (pc' := 110) rfl ?_
          have hHrd : sp_rd n per H := by rcases hH with q | q; exact q.1; rcases hI with r | r <;> omega
          have hHb := hHrd.1
          have hHb2 := hHrd.2.1
          refine xw_callVi C (c_Md_isServed l D ca ad M n per wk dl of k st ln tk i H hT hS (by omega) (by omega) (by omega) (hHrd.2.2.1 i (by omega))) ⟨zg_B C 2 k_718 k_31 k_721 q_Md_isServed ⟨by decide, by decide⟩, C.2.2.2.2.1 _ k_720, C.2.2.2.2.1 _ k_18⟩ 38 zr_38 rfl rfl (fun _ _ _ _ h => h) (fun _ _ _ _ _ _ _ => trivial) rfl rfl (Nat.le_of_ble_eq_true rfl) d_Md_isGood_110 ⟨by decide, by decide⟩ (pc' := 113) rfl (fun r51 M52 hp53 => ?_)
          obtain ⟨hme, hp53⟩ := hp53
          rw [hme]
          clear hme
          rcases hp53 with ⟨hsv, rfl⟩ | ⟨hsv, rfl⟩
          ·
            refine xw_istore_n C d_Md_isGood_113 rfl (by decide) rfl (pc' := 114) rfl ?_
            refine xw_iinc C 3 (v := nI (i + 1)) d_Md_isGood_114 rfl (xp_inc1 _) (by decide) rfl (pc' := 117) rfl ?_
            refine xw_goto C (tgt := 95) d_Md_isGood_117 (by decide) ?_
            refine xw_lv [2, 3, 1, 0] rfl ?_
            refine ih (n - (i + 1)) (by omega) (i + 1) 1 rfl (by omega) ?_
            rcases hI with r | r
            · refine Or.inl ⟨rfl, r.2.1, r.2.2.1, fun u hu => ?_⟩
              rcases Nat.lt_or_ge u i with c9 | c9
              · exact r.2.2.2 u c9
              · rw [show u = i by omega]; exact hsv
            · omega
          ·
            refine xw_istore_n C d_Md_isGood_113 rfl (by decide) rfl (pc' := 114) rfl ?_
            refine xw_iinc C 3 (v := nI (i + 1)) d_Md_isGood_114 rfl (xp_inc1 _) (by decide) rfl (pc' := 117) rfl ?_
            refine xw_goto C (tgt := 95) d_Md_isGood_117 (by decide) ?_
            refine xw_lv [2, 3, 1, 0] rfl ?_
            refine ih (n - (i + 1)) (by omega) (i + 1) 0 rfl (by omega) (Or.inr ⟨rfl, ?_⟩)
            rcases hI with r | r
            · intro h9
              obtain ⟨h8, h9⟩ := h9
              rcases hH with q | q
              · have e := sp_rd_one h9.1 q.1
                subst e
                exact hsv (h9.2.2 i (by omega))
              · omega
            · exact r.2
  have loop2 : ∀ H, ((sp_rd n per H ∧ H ≤ 240) ∨ (sp_no n per ∧ H = 241)) → ∀ (d : Nat) (i g : Nat), H - i = d → i ≤ H → (g = 1 ∧ H ≤ 240 ∧ (∀ j, j < k → st j + ln j ≤ H) ∧ (∀ u, u < i → sp_cov st ln k u < 2) ∨ g = 0 ∧ ¬ (∃ h, sp_chk n per wk dl of k st ln tk h)) → XW p l e { frames := 2, cells := 0, slots := 0, locals := 50 } s m args below meth c D zCl (va_A (zW ca ad M) sz) s.heap 4 (zW ca ad M) 0 0 (MQ below (va_Qi (fun r M' => M' = M ∧ ((∃ h, sp_chk n per wk dl of k st ln tk h) ∧ r = nI 1 ∨ ¬ (∃ h, sp_chk n per wk dl of k st ln tk h) ∧ r = nI 0)) (xw_B D zCl (zT ca) (va_A (zW ca ad M) sz) (zW ca ad)) (va_A (zW ca ad M) sz)) args s 0 0 (va_A (zW ca ad M) sz)) 63 [(0, .ref (ad 38)), (1, .int (nI H)), (2, .int (nI g)), (3, .int (nI i))] [] := by
    intro H hH d
    have hHx : H ≤ 241 := by rcases hH with q | q <;> omega
    induction d using Nat.strongRecOn with
    | _ d ih =>
      intro i g hd hi hI
      have hg1 : g ≤ 1 := by rcases hI with r | r <;> omega
      refine xw_iload_n C 3 d_Md_isGood_63 rfl rfl (pc' := 64) rfl ?_
      refine xw_iload_n C 1 d_Md_isGood_64 rfl rfl (pc' := 65) rfl ?_
      refine xw_icmp_ge C (tgt := 93) d_Md_isGood_65 (by decide) (pc' := 68) rfl (fun h65 => ?_) (fun h65 => ?_)
      ·
        replace h65 : H ≤ i := (nI_leI (by omega) (by omega)).mp h65
        refine xw_iconst C (v := nI 0) d_Md_isGood_93 (by decide) (pc' := 94) rfl ?_
        refine xw_istore_n C d_Md_isGood_94 rfl (by decide) rfl (pc' := 95) rfl ?_
        refine xw_lv [1, 2, 3, 0] rfl ?_
        refine loop3 H hH n 0 g rfl (by omega) ?_
        rcases hI with r | r
        · exact Or.inl ⟨r.1, r.2.1, ⟨r.2.2.1, fun u hu => r.2.2.2 u (by omega)⟩, fun t ht => by omega⟩
        · exact Or.inr r
      ·
        replace h65 : ¬ (H ≤ i) := fun hneg => h65 ((nI_leI (by omega) (by omega)).mpr hneg)
        refine xw_iload_n C 2 d_Md_isGood_68 rfl rfl (pc' := 69) rfl ?_
        refine xw_if_eq C (tgt := 93) d_Md_isGood_69 (by decide) (pc' := 72) rfl (fun h69 => ?_) (fun h69 => ?_)
        ·
          replace h69 : g = 0 := (xp_eq0 (by omega)).mp h69
          refine xw_iconst C (v := nI 0) d_Md_isGood_93 (by decide) (pc' := 94) rfl ?_
          refine xw_istore_n C d_Md_isGood_94 rfl (by decide) rfl (pc' := 95) rfl ?_
          refine xw_lv [1, 2, 3, 0] rfl ?_
          refine loop3 H hH n 0 g rfl (by omega) ?_
          rcases hI with r | r
          · exact Or.inl ⟨r.1, r.2.1, ⟨r.2.2.1, fun u hu => r.2.2.2 u (by omega)⟩, fun t ht => by omega⟩
          · exact Or.inr r
        ·
          replace h69 : ¬ (g = 0) := fun hneg => h69 ((xp_eq0 (by omega)).mpr hneg)
          refine xw_aload_n C 0 d_Md_isGood_72 rfl rfl (pc' := 73) rfl ?_
          refine xw_iload_n C 3 d_Md_isGood_73 rfl rfl (pc' := 74) rfl ?_
          refine xw_callVi C (c_Md_covering l D ca ad M k st ln tk i hS (by omega)) ⟨zg_B C 1 k_714 k_31 k_717 q_Md_covering ⟨by decide, by decide⟩, C.2.2.2.2.1 _ k_716, C.2.2.2.2.1 _ k_17⟩ 38 zr_38 rfl rfl (fun _ _ _ _ h => h) (fun _ _ _ _ _ _ _ => trivial) rfl rfl (Nat.le_of_ble_eq_true rfl) d_Md_isGood_74 ⟨by decide, by decide⟩ (pc' := 77) rfl (fun r51 M52 hp53 => ?_)
          obtain ⟨hme, hre⟩ := hp53
          rw [hme, hre]
          clear hme hre
          refine xw_iconst C (v := nI 2) d_Md_isGood_77 (by decide) (pc' := 78) rfl ?_
          have hcv : sp_cov st ln k i ≤ k := sp_cov_le _ _ _ _
          refine xw_icmp_ge C (tgt := 85) d_Md_isGood_78 (by decide) (pc' := 81) rfl (fun h78 => ?_) (fun h78 => ?_)
          ·
            replace h78 : 2 ≤ (sp_cov st ln k i) := (nI_leI (by omega) (by omega)).mp h78
            refine xw_iconst C (v := nI 0) d_Md_isGood_85 (by decide) (pc' := 86) rfl ?_
            refine xw_istore_n C d_Md_isGood_86 rfl (by decide) rfl (pc' := 87) rfl ?_
            refine xw_iinc C 3 (v := nI (i + 1)) d_Md_isGood_87 rfl (xp_inc1 _) (by decide) rfl (pc' := 90) rfl ?_
            refine xw_goto C (tgt := 63) d_Md_isGood_90 (by decide) ?_
            refine xw_lv [2, 3, 1, 0] rfl ?_
            refine ih (H - (i + 1)) (by omega) (i + 1) 0 rfl (by omega) (Or.inr ⟨rfl, ?_⟩)
            rcases hI with r | r
            · intro h9
              obtain ⟨h8, h9⟩ := h9
              rcases hH with q | q
              · have e := sp_rd_one h9.1 q.1
                subst e
                have := h9.2.1.2 i (by omega)
                omega
              · omega
            · exact r.2
          ·
            replace h78 : ¬ (2 ≤ (sp_cov st ln k i)) := fun hneg => h78 ((nI_leI (by omega) (by omega)).mpr hneg)
            refine xw_iconst C (v := nI 1) d_Md_isGood_81 (by decide) (pc' := 82) rfl ?_
            refine xw_goto C (tgt := 86) d_Md_isGood_82 (by decide) ?_
            refine xw_istore_n C d_Md_isGood_86 rfl (by decide) rfl (pc' := 87) rfl ?_
            refine xw_iinc C 3 (v := nI (i + 1)) d_Md_isGood_87 rfl (xp_inc1 _) (by decide) rfl (pc' := 90) rfl ?_
            refine xw_goto C (tgt := 63) d_Md_isGood_90 (by decide) ?_
            refine xw_lv [2, 3, 1, 0] rfl ?_
            refine ih (H - (i + 1)) (by omega) (i + 1) 1 rfl (by omega) ?_
            rcases hI with r | r
            · refine Or.inl ⟨rfl, r.2.1, r.2.2.1, fun u hu => ?_⟩
              rcases Nat.lt_or_ge u i with c9 | c9
              · exact r.2.2.2 u c9
              · rw [show u = i by omega]; omega
            · omega
  have loop1 : ∀ H, ((sp_rd n per H ∧ H ≤ 240) ∨ (sp_no n per ∧ H = 241)) → ∀ (d : Nat) (i g : Nat), k - i = d → i ≤ k → (g = 1 ∧ H ≤ 240 ∧ (∀ j, j < i → st j + ln j ≤ H) ∨ g = 0 ∧ ¬ (∃ h, sp_chk n per wk dl of k st ln tk h)) → XW p l e { frames := 2, cells := 0, slots := 0, locals := 50 } s m args below meth c D zCl (va_A (zW ca ad M) sz) s.heap 4 (zW ca ad M) 0 0 (MQ below (va_Qi (fun r M' => M' = M ∧ ((∃ h, sp_chk n per wk dl of k st ln tk h) ∧ r = nI 1 ∨ ¬ (∃ h, sp_chk n per wk dl of k st ln tk h) ∧ r = nI 0)) (xw_B D zCl (zT ca) (va_A (zW ca ad M) sz) (zW ca ad)) (va_A (zW ca ad M) sz)) args s 0 0 (va_A (zW ca ad M) sz)) 20 [(0, .ref (ad 38)), (1, .int (nI H)), (2, .int (nI g)), (3, .int (nI i))] [] := by
    intro H hH d
    have hHx : H ≤ 241 := by rcases hH with q | q <;> omega
    induction d using Nat.strongRecOn with
    | _ d ih =>
      intro i g hd hi hI
      have hg1 : g ≤ 1 := by rcases hI with r | r <;> omega
      refine xw_iload_n C 3 d_Md_isGood_20 rfl rfl (pc' := 21) rfl ?_
      refine xw_aload_n C 0 d_Md_isGood_21 rfl rfl (pc' := 22) rfl ?_
      refine xw_get C u_Md 38 zr_38 rfl 8 (by decide) k_578 rfl rfl d_Md_isGood_22 (pc' := 25) rfl ?_
      refine xw_topi (y := nI k) hS.1 ?_
      refine xw_icmp_ge C (tgt := 61) d_Md_isGood_25 (by decide) (pc' := 28) rfl (fun h25 => ?_) (fun h25 => ?_)
      ·
        replace h25 : k ≤ i := (nI_leI (by omega) (by omega)).mp h25
        refine xw_iconst C (v := nI 0) d_Md_isGood_61 (by decide) (pc' := 62) rfl ?_
        refine xw_istore_n C d_Md_isGood_62 rfl (by decide) rfl (pc' := 63) rfl ?_
        refine xw_lv [1, 2, 3, 0] rfl ?_
        refine loop2 H hH H 0 g rfl (by omega) ?_
        rcases hI with r | r
        · exact Or.inl ⟨r.1, r.2.1, fun j hj => r.2.2 j (by omega), fun u hu => by omega⟩
        · exact Or.inr r
      ·
        replace h25 : ¬ (k ≤ i) := fun hneg => h25 ((nI_leI (by omega) (by omega)).mpr hneg)
        refine xw_iload_n C 2 d_Md_isGood_28 rfl rfl (pc' := 29) rfl ?_
        refine xw_if_eq C (tgt := 53) d_Md_isGood_29 (by decide) (pc' := 32) rfl (fun h29 => ?_) (fun h29 => ?_)
        ·
          replace h29 : g = 0 := (xp_eq0 (by omega)).mp h29
          refine xw_iconst C (v := nI 0) d_Md_isGood_53 (by decide) (pc' := 54) rfl ?_
          refine xw_istore_n C d_Md_isGood_54 rfl (by decide) rfl (pc' := 55) rfl ?_
          refine xw_iinc C 3 (v := nI (i + 1)) d_Md_isGood_55 rfl (xp_inc1 _) (by decide) rfl (pc' := 58) rfl ?_
          refine xw_goto C (tgt := 20) d_Md_isGood_58 (by decide) ?_
          refine xw_lv [2, 3, 1, 0] rfl ?_
          refine ih (k - (i + 1)) (by omega) (i + 1) 0 rfl (by omega) (Or.inr ⟨rfl, ?_⟩)
          rcases hI with r | r
          · intro h9
            obtain ⟨h8, h9⟩ := h9
            rcases hH with q | q
            · have e := sp_rd_one h9.1 q.1
              subst e
              have := h9.2.1.1 i (by omega)
              omega
            · omega
          · exact r.2
        ·
          replace h29 : ¬ (g = 0) := fun hneg => h29 ((xp_eq0 (by omega)).mpr hneg)
          refine xw_aload_n C 0 d_Md_isGood_32 rfl rfl (pc' := 33) rfl ?_
          refine xw_get C u_Md 38 zr_38 rfl 9 (by decide) k_579 rfl rfl d_Md_isGood_33 (pc' := 36) rfl ?_
          refine xw_iload_n C 3 d_Md_isGood_36 rfl rfl (pc' := 37) rfl ?_
          refine xw_iald C 44 0 zr_44 rfl i rfl (by omega) (by decide) d_Md_isGood_37 (pc' := 38) rfl ?_
          refine xw_topi (y := nI (st i)) (hS.2.2 i (by omega)).1 ?_
          refine xw_aload_n C 0 d_Md_isGood_38 rfl rfl (pc' := 39) rfl ?_
          refine xw_get C u_Md 38 zr_38 rfl 10 (by decide) k_580 rfl rfl d_Md_isGood_39 (pc' := 42) rfl ?_
          refine xw_iload_n C 3 d_Md_isGood_42 rfl rfl (pc' := 43) rfl ?_
          refine xw_iald C 45 0 zr_45 rfl i rfl (by omega) (by decide) d_Md_isGood_43 (pc' := 44) rfl ?_
          refine xw_topi (y := nI (ln i)) (hS.2.2 i (by omega)).2.1 ?_
          refine xw_iadd C d_Md_isGood_44 (pc' := 45) rfl ?_
          refine xw_topi (y := nI ((st i) + (ln i))) (nI_add _ _) ?_
          refine xw_iload_n C 1 d_Md_isGood_45 rfl rfl (pc' := 46) rfl ?_
          have hsi := hS.2.2 i (by omega)
          refine xw_icmp_gt C (tgt := 53) d_Md_isGood_46 (by decide) (pc' := 49) rfl (fun h46 => ?_) (fun h46 => ?_)
          ·
            replace h46 : H < ((st i) + (ln i)) := (nI_ltI (by omega) (by omega)).mp h46
            refine xw_iconst C (v := nI 0) d_Md_isGood_53 (by decide) (pc' := 54) rfl ?_
            refine xw_istore_n C d_Md_isGood_54 rfl (by decide) rfl (pc' := 55) rfl ?_
            refine xw_iinc C 3 (v := nI (i + 1)) d_Md_isGood_55 rfl (xp_inc1 _) (by decide) rfl (pc' := 58) rfl ?_
            refine xw_goto C (tgt := 20) d_Md_isGood_58 (by decide) ?_
            refine xw_lv [2, 3, 1, 0] rfl ?_
            refine ih (k - (i + 1)) (by omega) (i + 1) 0 rfl (by omega) (Or.inr ⟨rfl, ?_⟩)
            rcases hI with r | r
            · intro h9
              obtain ⟨h8, h9⟩ := h9
              rcases hH with q | q
              · have e := sp_rd_one h9.1 q.1
                subst e
                have := h9.2.1.1 i (by omega)
                omega
              · omega
            · exact r.2
          ·
            replace h46 : ¬ (H < ((st i) + (ln i))) := fun hneg => h46 ((nI_ltI (by omega) (by omega)).mpr hneg)
            refine xw_iconst C (v := nI 1) d_Md_isGood_49 (by decide) (pc' := 50) rfl ?_
            refine xw_goto C (tgt := 54) d_Md_isGood_50 (by decide) ?_
            refine xw_istore_n C d_Md_isGood_54 rfl (by decide) rfl (pc' := 55) rfl ?_
            refine xw_iinc C 3 (v := nI (i + 1)) d_Md_isGood_55 rfl (xp_inc1 _) (by decide) rfl (pc' := 58) rfl ?_
            refine xw_goto C (tgt := 20) d_Md_isGood_58 (by decide) ?_
            refine xw_lv [2, 3, 1, 0] rfl ?_
            refine ih (k - (i + 1)) (by omega) (i + 1) 1 rfl (by omega) (Or.inl ⟨rfl, by omega, fun j hj => ?_⟩)
            rcases Nat.lt_or_ge j i with c9 | c9
            · rcases hI with r | r
              · exact r.2.2 j c9
              · omega
            · rw [show j = i by omega]; omega
  refine xw_lvE (lv' := [(0, .ref (ad 38))]) rfl ?_
  refine xw_aload_n C 0 d_Md_isGood_0 rfl rfl (pc' := 1) rfl ?_
  refine xw_callVi C (c_Md_whole l D ca ad M n per wk dl of hT) ⟨zg_B C 0 k_666 k_31 k_669 q_Md_whole ⟨by decide, by decide⟩, C.2.2.2.2.1 _ k_668, C.2.2.2.2.1 _ k_11⟩ 38 zr_38 rfl rfl (fun _ _ _ _ h => h) (fun _ _ _ _ _ _ _ => trivial) rfl rfl (Nat.le_of_ble_eq_true rfl) d_Md_isGood_1 ⟨by decide, by decide⟩ (pc' := 4) rfl (fun r1 M2 hp3 => ?_)
  obtain ⟨hme, hre⟩ := hp3
  rw [hme]
  clear hme
  rcases hre with ⟨h, hrd, hre⟩ | ⟨hnr, hre⟩
  ·
    rw [hre]
    have hh1 := hrd.1
    have hh2 := hrd.2.1
    refine xw_istore_n C d_Md_isGood_4 rfl (by decide) rfl (pc' := 5) rfl ?_
    refine xw_iload_n C 0 d_Md_isGood_5 rfl rfl (pc' := 6) rfl ?_
    refine xw_sipush C (v := nI 240) d_Md_isGood_6 (by decide) (pc' := 9) rfl ?_
    refine xw_icmp_gt C (tgt := 16) d_Md_isGood_9 (by decide) (pc' := 12) rfl (fun h9 => ?_) (fun h9 => ?_)
    ·
      replace h9 : 240 < h := (nI_ltI (by omega) (by omega)).mp h9
      omega
    ·
      replace h9 : ¬ (240 < h) := fun hneg => h9 ((nI_ltI (by omega) (by omega)).mpr hneg)
      refine xw_iconst C (v := nI 1) d_Md_isGood_12 (by decide) (pc' := 13) rfl ?_
      refine xw_goto C (tgt := 17) d_Md_isGood_13 (by decide) ?_
      refine xw_istore_n C d_Md_isGood_17 rfl (by decide) rfl (pc' := 18) rfl ?_
      refine xw_iconst C (v := nI 0) d_Md_isGood_18 (by decide) (pc' := 19) rfl ?_
      refine xw_istore_n C d_Md_isGood_19 rfl (by decide) rfl (pc' := 20) rfl ?_
      refine xw_lv [3, 2, 1, 0] rfl ?_
      exact loop1 h (Or.inl ⟨hrd, hh2⟩) k 0 1 rfl (by omega) (Or.inl ⟨rfl, by omega, fun j hj => by omega⟩)
  ·
    rw [hre]
    refine xw_istore_n C d_Md_isGood_4 rfl (by decide) rfl (pc' := 5) rfl ?_
    refine xw_iload_n C 0 d_Md_isGood_5 rfl rfl (pc' := 6) rfl ?_
    refine xw_sipush C (v := nI 240) d_Md_isGood_6 (by decide) (pc' := 9) rfl ?_
    refine xw_icmp_gt C (tgt := 16) d_Md_isGood_9 (by decide) (pc' := 12) rfl (fun h9 => ?_) (fun h9 => ?_)
    ·
      replace h9 : 240 < 241 := (nI_ltI (by omega) (by omega)).mp h9
      refine xw_iconst C (v := nI 0) d_Md_isGood_16 (by decide) (pc' := 17) rfl ?_
      refine xw_istore_n C d_Md_isGood_17 rfl (by decide) rfl (pc' := 18) rfl ?_
      refine xw_iconst C (v := nI 0) d_Md_isGood_18 (by decide) (pc' := 19) rfl ?_
      refine xw_istore_n C d_Md_isGood_19 rfl (by decide) rfl (pc' := 20) rfl ?_
      refine xw_lv [3, 2, 1, 0] rfl ?_
      exact loop1 241 (Or.inr ⟨hnr, rfl⟩) k 0 0 rfl (by omega) (Or.inr ⟨rfl, fun h9 => by obtain ⟨h8, h9⟩ := h9; exact sp_no_rd hnr h9.1⟩)
    ·
      replace h9 : ¬ (240 < 241) := fun hneg => h9 ((nI_ltI (by omega) (by omega)).mpr hneg)
      omega

def zStY (M : Nat → Nat → Int32) : Nat → Nat → Int32 := zfl (zfl (zfl (zst (zst (zst M 38 0 (nI 0)) 38 1 (nI 1)) 38 4 (nI 0)) 48 16 (nI 0)) 54 24 (nI 0)) 49 6 (nI 0)

set_option maxHeartbeats 4000000 in
set_option maxRecDepth 100000 in
/-- check -/
theorem c_Md_check (l : Launch) (D : va_G) (ca : Nat → ClassId) (ad : Nat → Nat) (M : Nat → Nat → Int32) (md n : Nat) (per wk dl of : Nat → Nat) (k : Nat) (st ln tk : Nat → Nat) (hmd : M 38 1 = nI md) (hmb : md ≤ 1) (hT : tmOK M n per wk dl of) (hS : smOK M k st ln tk) : xw_Mi l y_Md_check (.code y_Md_check b_Md_check 2 (some .boolean) :: zG) { frames := 3, cells := 0, slots := 0, locals := 73 } D zCl (zT ca) [.ref (ad 38)] (zW ca ad M) (fun _ => True) 0 0 (zW ca ad) (fun r M' => md = 1 ∧ M' = zst M 38 0 (nI 1) ∨ md = 0 ∧ (¬ (∃ h, sp_chk n per wk dl of k st ln tk h) ∧ r = nI 0 ∧ M' = zst M 38 0 (nI 0) ∨ (∃ h, sp_chk n per wk dl of k st ln tk h) ∧ r = nI 1 ∧ M' = zStY M)) := by
  intro sz
  refine xw_met (cc := b_Md_check) (maxL := 2) (ret := (some .boolean)) (by decide) rfl (Nat.le_of_ble_eq_true rfl) (fun p e s m args below meth c hr hlk hnm hsz hKs C => ?_)
  have loopC : (∃ h, sp_chk n per wk dl of k st ln tk h) → md = 0 → ∀ (d : Nat) (i : Nat) (M1 : Nat → Nat → Int32), 6 - i = d → i ≤ 6 → M1 = zfl (zfl (zfl (zst (zst (zst M 38 0 (nI 0)) 38 1 (nI 1)) 38 4 (nI 0)) 48 16 (nI 0)) 54 24 (nI 0)) 49 i (nI 0) → XW p l e { frames := 3, cells := 0, slots := 0, locals := 73 } s m args below meth c D zCl (va_A (zW ca ad M) sz) s.heap 2 (zW ca ad M1) 0 0 (MQ below (va_Qi (fun r M' => md = 1 ∧ M' = zst M 38 0 (nI 1) ∨ md = 0 ∧ (¬ (∃ h, sp_chk n per wk dl of k st ln tk h) ∧ r = nI 0 ∧ M' = zst M 38 0 (nI 0) ∨ (∃ h, sp_chk n per wk dl of k st ln tk h) ∧ r = nI 1 ∧ M' = zStY M)) (xw_B D zCl (zT ca) (va_A (zW ca ad M) sz) (zW ca ad)) (va_A (zW ca ad M) sz)) args s 0 0 (va_A (zW ca ad M) sz)) 82 [(0, .ref (ad 38)), (1, .int (nI i))] [] := by
    intro hgd hmd0 d
    induction d using Nat.strongRecOn with
    | _ d ih =>
      intro i M1 hd hi hM1
      refine xw_iload_n C 1 d_Md_check_82 rfl rfl (pc' := 83) rfl ?_
      refine xw_bipush C (v := nI 6) d_Md_check_83 (by decide) (pc' := 85) rfl ?_
      refine xw_icmp_ge C (tgt := 101) d_Md_check_85 (by decide) (pc' := 88) rfl (fun h85 => ?_) (fun h85 => ?_)
      ·
        replace h85 : 6 ≤ i := (nI_leI (by omega) (by omega)).mp h85
        refine xw_iconst C (v := nI 1) d_Md_check_101 (by decide) (pc' := 102) rfl ?_
        refine xw_zret C hr hlk xp_n1 (F := zW ca ad) M1 rfl ?_ d_Md_check_102
        exact Or.inr ⟨hmd0, Or.inr ⟨hgd, rfl, by rw [hM1, show i = 6 by omega]; rfl⟩⟩
      ·
        replace h85 : ¬ (6 ≤ i) := fun hneg => h85 ((nI_leI (by omega) (by omega)).mpr hneg)
        refine xw_aload_n C 0 d_Md_check_88 rfl rfl (pc' := 89) rfl ?_
        refine xw_get C u_Md 38 zr_38 rfl 15 (by decide) k_585 rfl rfl d_Md_check_89 (pc' := 92) rfl ?_
        refine xw_iload_n C 1 d_Md_check_92 rfl rfl (pc' := 93) rfl ?_
        refine xw_iconst C (v := nI 0) d_Md_check_93 (by decide) (pc' := 94) rfl ?_
        obtain ⟨M51, hM51⟩ : ∃ zq, zq = zst M1 49 i (nI 0) := ⟨_, rfl⟩
        refine xw_zast C 49 2 zr_49 rfl i rfl (by omega) (by decide) (ws' := zW ca ad M51) (by rw [hM51, xp_v0]; exact zs_49 _ _) d_Md_check_94 (pc' := 95) rfl ?_
        refine xw_iinc C 1 (v := nI (i + 1)) d_Md_check_95 rfl (xp_inc1 _) (by decide) rfl (pc' := 98) rfl ?_
        refine xw_goto C (tgt := 82) d_Md_check_98 (by decide) ?_
        refine xw_lv [1, 0] rfl ?_
        exact ih (6 - (i + 1)) (by omega) (i + 1) M51 rfl (by omega) (by rw [hM51, hM1]; exact zfl_s _ _ _ _)
  have loopB : (∃ h, sp_chk n per wk dl of k st ln tk h) → md = 0 → ∀ (d : Nat) (i : Nat) (M1 : Nat → Nat → Int32), 24 - i = d → i ≤ 24 → M1 = zfl (zfl (zst (zst (zst M 38 0 (nI 0)) 38 1 (nI 1)) 38 4 (nI 0)) 48 16 (nI 0)) 54 i (nI 0) → XW p l e { frames := 3, cells := 0, slots := 0, locals := 73 } s m args below meth c D zCl (va_A (zW ca ad M) sz) s.heap 2 (zW ca ad M1) 0 0 (MQ below (va_Qi (fun r M' => md = 1 ∧ M' = zst M 38 0 (nI 1) ∨ md = 0 ∧ (¬ (∃ h, sp_chk n per wk dl of k st ln tk h) ∧ r = nI 0 ∧ M' = zst M 38 0 (nI 0) ∨ (∃ h, sp_chk n per wk dl of k st ln tk h) ∧ r = nI 1 ∧ M' = zStY M)) (xw_B D zCl (zT ca) (va_A (zW ca ad M) sz) (zW ca ad)) (va_A (zW ca ad M) sz)) args s 0 0 (va_A (zW ca ad M) sz)) 61 [(0, .ref (ad 38)), (1, .int (nI i))] [] := by
    intro hgd hmd0 d
    induction d using Nat.strongRecOn with
    | _ d ih =>
      intro i M1 hd hi hM1
      refine xw_iload_n C 1 d_Md_check_61 rfl rfl (pc' := 62) rfl ?_
      refine xw_bipush C (v := nI 24) d_Md_check_62 (by decide) (pc' := 64) rfl ?_
      refine xw_icmp_ge C (tgt := 80) d_Md_check_64 (by decide) (pc' := 67) rfl (fun h64 => ?_) (fun h64 => ?_)
      ·
        replace h64 : 24 ≤ i := (nI_leI (by omega) (by omega)).mp h64
        refine xw_iconst C (v := nI 0) d_Md_check_80 (by decide) (pc' := 81) rfl ?_
        refine xw_istore_n C d_Md_check_81 rfl (by decide) rfl (pc' := 82) rfl ?_
        refine xw_lv [1, 0] rfl ?_
        exact loopC hgd hmd0 6 0 M1 rfl (by omega) (by rw [hM1, show i = 24 by omega]; exact zfl_0 _ _ _)
      ·
        replace h64 : ¬ (24 ≤ i) := fun hneg => h64 ((nI_leI (by omega) (by omega)).mpr hneg)
        refine xw_aload_n C 0 d_Md_check_67 rfl rfl (pc' := 68) rfl ?_
        refine xw_get C u_Md 38 zr_38 rfl 20 (by decide) k_590 rfl rfl d_Md_check_68 (pc' := 71) rfl ?_
        refine xw_iload_n C 1 d_Md_check_71 rfl rfl (pc' := 72) rfl ?_
        refine xw_iconst C (v := nI 0) d_Md_check_72 (by decide) (pc' := 73) rfl ?_
        obtain ⟨M51, hM51⟩ : ∃ zq, zq = zst M1 54 i (nI 0) := ⟨_, rfl⟩
        refine xw_iast C 54 0 zr_54 rfl i rfl (by omega) (by decide) (ws' := zW ca ad M51) (by rw [hM51]; exact zs_54 _ _) d_Md_check_73 (pc' := 74) rfl ?_
        refine xw_iinc C 1 (v := nI (i + 1)) d_Md_check_74 rfl (xp_inc1 _) (by decide) rfl (pc' := 77) rfl ?_
        refine xw_goto C (tgt := 61) d_Md_check_77 (by decide) ?_
        refine xw_lv [1, 0] rfl ?_
        exact ih (24 - (i + 1)) (by omega) (i + 1) M51 rfl (by omega) (by rw [hM51, hM1]; exact zfl_s _ _ _ _)
  have loopA : (∃ h, sp_chk n per wk dl of k st ln tk h) → md = 0 → ∀ (d : Nat) (i : Nat) (M1 : Nat → Nat → Int32), 16 - i = d → i ≤ 16 → M1 = zfl (zst (zst (zst M 38 0 (nI 0)) 38 1 (nI 1)) 38 4 (nI 0)) 48 i (nI 0) → XW p l e { frames := 3, cells := 0, slots := 0, locals := 73 } s m args below meth c D zCl (va_A (zW ca ad M) sz) s.heap 2 (zW ca ad M1) 0 0 (MQ below (va_Qi (fun r M' => md = 1 ∧ M' = zst M 38 0 (nI 1) ∨ md = 0 ∧ (¬ (∃ h, sp_chk n per wk dl of k st ln tk h) ∧ r = nI 0 ∧ M' = zst M 38 0 (nI 0) ∨ (∃ h, sp_chk n per wk dl of k st ln tk h) ∧ r = nI 1 ∧ M' = zStY M)) (xw_B D zCl (zT ca) (va_A (zW ca ad M) sz) (zW ca ad)) (va_A (zW ca ad M) sz)) args s 0 0 (va_A (zW ca ad M) sz)) 40 [(0, .ref (ad 38)), (1, .int (nI i))] [] := by
    intro hgd hmd0 d
    induction d using Nat.strongRecOn with
    | _ d ih =>
      intro i M1 hd hi hM1
      refine xw_iload_n C 1 d_Md_check_40 rfl rfl (pc' := 41) rfl ?_
      refine xw_bipush C (v := nI 16) d_Md_check_41 (by decide) (pc' := 43) rfl ?_
      refine xw_icmp_ge C (tgt := 59) d_Md_check_43 (by decide) (pc' := 46) rfl (fun h43 => ?_) (fun h43 => ?_)
      ·
        replace h43 : 16 ≤ i := (nI_leI (by omega) (by omega)).mp h43
        refine xw_iconst C (v := nI 0) d_Md_check_59 (by decide) (pc' := 60) rfl ?_
        refine xw_istore_n C d_Md_check_60 rfl (by decide) rfl (pc' := 61) rfl ?_
        refine xw_lv [1, 0] rfl ?_
        exact loopB hgd hmd0 24 0 M1 rfl (by omega) (by rw [hM1, show i = 16 by omega]; exact zfl_0 _ _ _)
      ·
        replace h43 : ¬ (16 ≤ i) := fun hneg => h43 ((nI_leI (by omega) (by omega)).mpr hneg)
        refine xw_aload_n C 0 d_Md_check_46 rfl rfl (pc' := 47) rfl ?_
        refine xw_get C u_Md 38 zr_38 rfl 13 (by decide) k_583 rfl rfl d_Md_check_47 (pc' := 50) rfl ?_
        refine xw_iload_n C 1 d_Md_check_50 rfl rfl (pc' := 51) rfl ?_
        refine xw_iconst C (v := nI 0) d_Md_check_51 (by decide) (pc' := 52) rfl ?_
        obtain ⟨M51, hM51⟩ : ∃ zq, zq = zst M1 48 i (nI 0) := ⟨_, rfl⟩
        refine xw_iast C 48 0 zr_48 rfl i rfl (by omega) (by decide) (ws' := zW ca ad M51) (by rw [hM51]; exact zs_48 _ _) d_Md_check_52 (pc' := 53) rfl ?_
        refine xw_iinc C 1 (v := nI (i + 1)) d_Md_check_53 rfl (xp_inc1 _) (by decide) rfl (pc' := 56) rfl ?_
        refine xw_goto C (tgt := 40) d_Md_check_56 (by decide) ?_
        refine xw_lv [1, 0] rfl ?_
        exact ih (16 - (i + 1)) (by omega) (i + 1) M51 rfl (by omega) (by rw [hM51, hM1]; exact zfl_s _ _ _ _)
  refine xw_lvE (lv' := [(0, .ref (ad 38))]) rfl ?_
  refine xw_aload_n C 0 d_Md_check_0 rfl rfl (pc' := 1) rfl ?_
  refine xw_aload_n C 0 d_Md_check_1 rfl rfl (pc' := 2) rfl ?_
  refine xw_get C u_Md 38 zr_38 rfl 1 (by decide) k_571 rfl rfl d_Md_check_2 (pc' := 5) rfl ?_
  refine xw_topi (y := nI md) hmd ?_
  refine xw_if_eq C (tgt := 12) d_Md_check_5 (by decide) (pc' := 8) rfl (fun h5 => ?_) (fun h5 => ?_)
  ·
    replace h5 : md = 0 := (xp_eq0 (by omega)).mp h5
    refine xw_iconst C (v := nI 0) d_Md_check_12 (by decide) (pc' := 13) rfl ?_
    refine xw_callVi C (c_Md_refused l D ca ad M 0 (by omega)) ⟨zg_B C 1 k_646 k_31 k_649 q_Md_refused ⟨by decide, by decide⟩, C.2.2.2.2.1 _ k_648, C.2.2.2.2.1 _ k_10⟩ 38 zr_38 rfl rfl (fun _ _ _ _ h => h) (fun _ _ _ _ _ _ _ => trivial) rfl rfl (Nat.le_of_ble_eq_true rfl) d_Md_check_13 ⟨by decide, by decide⟩ (pc' := 16) rfl (fun r1 M2 hp3 => ?_)
    obtain ⟨hM2, hre⟩ := hp3
    refine xw_topi (y := nI 0) (by rw [hre]; rfl) ?_
    clear hre
    refine xw_if_ne C (tgt := 26) d_Md_check_16 (by decide) (pc' := 19) rfl (fun h16 => ?_) (fun h16 => ?_)
    ·
      replace h16 : ¬ (0 = 0) := fun hneg => h16 ((xp_eq0 (by omega)).mpr hneg)
      omega
    ·
      replace h16 : 0 = 0 := (xp_eq0 (by omega)).mp h16
      have hTr : tmOK M2 n per wk dl of := hT.keep (by rw [hM2, zst_ap, if_neg (by omega)]) (fun a j h1 h2 => by rw [hM2, zst_ap, if_neg (by omega)])
      have hSr : smOK M2 k st ln tk := hS.keep (by rw [hM2, zst_ap, if_neg (by omega)]) (fun a j h1 h2 => by rw [hM2, zst_ap, if_neg (by omega)])
      refine xw_aload_n C 0 d_Md_check_19 rfl rfl (pc' := 20) rfl ?_
      refine xw_callVi C (c_Md_isGood l D ca ad M2 n per wk dl of k st ln tk hTr hSr) ⟨zg_B C 0 k_710 k_31 k_713 q_Md_isGood ⟨by decide, by decide⟩, C.2.2.2.2.1 _ k_712, C.2.2.2.2.1 _ k_16⟩ 38 zr_38 rfl rfl (fun _ _ _ _ h => h) (fun _ _ _ _ _ _ _ => trivial) rfl rfl (Nat.le_of_ble_eq_true rfl) d_Md_check_20 ⟨by decide, by decide⟩ (pc' := 23) rfl (fun r4 M5 hp6 => ?_)
      obtain ⟨hme, hp6⟩ := hp6
      rw [hme]
      clear hme
      rcases hp6 with ⟨hgd, rfl⟩ | ⟨hgd, rfl⟩
      ·
        refine xw_if_ne C (tgt := 28) d_Md_check_23 (by decide) (pc' := 26) rfl (fun h23 => ?_) (fun h23 => ?_)
        ·
          replace h23 : ¬ (1 = 0) := fun hneg => h23 ((xp_eq0 (by omega)).mpr hneg)
          refine xw_aload_n C 0 d_Md_check_28 rfl rfl (pc' := 29) rfl ?_
          refine xw_iconst C (v := nI 1) d_Md_check_29 (by decide) (pc' := 30) rfl ?_
          obtain ⟨M7, hM7⟩ : ∃ zq, zq = zst M2 38 1 (nI 1) := ⟨_, rfl⟩
          refine xw_put C u_Md t_Md t_Md_ok n_Md 38 zr_38 rfl 1 (by decide) k_571 rfl rfl (t_Md_ok 1 (by decide)) xp_n1 rfl (Nat.le_of_ble_eq_true rfl) (ws' := zW ca ad M7) (by rw [hM7]; exact zs_38_1 _) d_Md_check_30 (pc' := 33) rfl ?_
          refine xw_aload_n C 0 d_Md_check_33 rfl rfl (pc' := 34) rfl ?_
          refine xw_iconst C (v := nI 0) d_Md_check_34 (by decide) (pc' := 35) rfl ?_
          obtain ⟨M8, hM8⟩ : ∃ zq, zq = zst M7 38 4 (nI 0) := ⟨_, rfl⟩
          refine xw_put C u_Md t_Md t_Md_ok n_Md 38 zr_38 rfl 14 (by decide) k_584 rfl rfl (t_Md_ok 14 (by decide)) rfl rfl (Nat.le_of_ble_eq_true rfl) (ws' := zW ca ad M8) (by rw [hM8]; exact zs_38_4 _) d_Md_check_35 (pc' := 38) rfl ?_
          refine xw_iconst C (v := nI 0) d_Md_check_38 (by decide) (pc' := 39) rfl ?_
          refine xw_istore_n C d_Md_check_39 rfl (by decide) rfl (pc' := 40) rfl ?_
          refine xw_lv [1, 0] rfl ?_
          exact loopA hgd (by omega) 16 0 M8 rfl (by omega) (by rw [hM8, hM7, hM2]; exact zfl_0 _ _ _)
        ·
          replace h23 : 1 = 0 := (xp_eq0 (by omega)).mp h23
          omega
      ·
        refine xw_if_ne C (tgt := 28) d_Md_check_23 (by decide) (pc' := 26) rfl (fun h23 => ?_) (fun h23 => ?_)
        ·
          replace h23 : ¬ (0 = 0) := fun hneg => h23 ((xp_eq0 (by omega)).mpr hneg)
          omega
        ·
          replace h23 : 0 = 0 := (xp_eq0 (by omega)).mp h23
          refine xw_iconst C (v := nI 0) d_Md_check_26 (by decide) (pc' := 27) rfl ?_
          refine xw_zret C hr hlk xp_n0 (F := zW ca ad) M2 rfl ?_ d_Md_check_27
          exact Or.inr ⟨by omega, Or.inl ⟨hgd, rfl, hM2⟩⟩
  ·
    replace h5 : ¬ (md = 0) := fun hneg => h5 ((xp_eq0 (by omega)).mpr hneg)
    refine xw_iconst C (v := nI 1) d_Md_check_8 (by decide) (pc' := 9) rfl ?_
    refine xw_goto C (tgt := 13) d_Md_check_9 (by decide) ?_
    refine xw_callVi C (c_Md_refused l D ca ad M 1 (by omega)) ⟨zg_B C 1 k_646 k_31 k_649 q_Md_refused ⟨by decide, by decide⟩, C.2.2.2.2.1 _ k_648, C.2.2.2.2.1 _ k_10⟩ 38 zr_38 rfl rfl (fun _ _ _ _ h => h) (fun _ _ _ _ _ _ _ => trivial) rfl rfl (Nat.le_of_ble_eq_true rfl) d_Md_check_13 ⟨by decide, by decide⟩ (pc' := 16) rfl (fun r9 M10 hp11 => ?_)
    obtain ⟨hM10, hre⟩ := hp11
    refine xw_topi (y := nI 1) (by rw [hre]; rfl) ?_
    clear hre
    refine xw_if_ne C (tgt := 26) d_Md_check_16 (by decide) (pc' := 19) rfl (fun h16 => ?_) (fun h16 => ?_)
    ·
      replace h16 : ¬ (1 = 0) := fun hneg => h16 ((xp_eq0 (by omega)).mpr hneg)
      refine xw_iconst C (v := nI 0) d_Md_check_26 (by decide) (pc' := 27) rfl ?_
      refine xw_zret C hr hlk xp_n0 (F := zW ca ad) M10 rfl ?_ d_Md_check_27
      exact Or.inl ⟨by omega, hM10⟩
    ·
      replace h16 : 1 = 0 := (xp_eq0 (by omega)).mp h16
      omega
