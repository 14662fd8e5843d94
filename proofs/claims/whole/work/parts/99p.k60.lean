/-- rule 0, written into the rows 33 and 34 -/
def mRZ (M : Nat → Int → Int) : Nat → Int → Int := UA (UA (UA (UA (UA (UA (UA (UA (UA (UA (UA (UA (M) 33 0 7) 34 0 10000) 34 1 3) 34 2 (-8)) 34 3 10001) 34 4 10) 34 5 (-8)) 34 6 (-6)) 33 1 3) 34 160 10003) 34 161 10002) 34 162 (-4)
theorem S127 {d : Nat} (hd : 1 ≤ d) {m : Nat} {Φ : (Nat → Nat → Int32) → xM} (hΦ : MLaw m Φ) {A : Nat → Int → Int} : xev xT d 127 [.ref m] (Φ (mI A)) none (Φ (mI (mRZ A))) := by
  refine xev_i (D := 0) hd (Nat.le_of_ble_eq_true rfl) (fun d hd => ?_)
  refine p_ald (cc3 c127_0) rfl (pm_getp hΦ (cc3 c127_1) (c := 33) rfl (by decide) ?_)
  refine i_push (n := 0) (cc3 c127_4) (by decide) (i_push (n := 7) (cc3 c127_5) (by decide) ?_)
  refine n_asti hΦ (c := 33) (n := 12) (ni := 12) (hv := rfl) (cc3 c127_7) (by decide) rfl rfl rfl (by decide) (by decide) ?_
  refine p_ald (cc3 c127_8) rfl (pm_getp hΦ (cc3 c127_9) (c := 34) rfl (by decide) ?_)
  refine i_push (n := 0) (cc3 c127_12) (by decide) (i_push (n := 10000) (cc3 c127_13) (by decide) ?_)
  refine n_asti hΦ (c := 34) (n := 1920) (ni := 1920) (hv := rfl) (cc3 c127_16) (by decide) rfl rfl rfl (by decide) (by decide) ?_
  refine p_ald (cc3 c127_17) rfl (pm_getp hΦ (cc3 c127_18) (c := 34) rfl (by decide) ?_)
  refine i_push (n := 1) (cc3 c127_21) (by decide) (i_push (n := 3) (cc3 c127_22) (by decide) ?_)
  refine n_asti hΦ (c := 34) (n := 1920) (ni := 1920) (hv := rfl) (cc3 c127_23) (by decide) rfl rfl rfl (by decide) (by decide) ?_
  refine p_ald (cc3 c127_24) rfl (pm_getp hΦ (cc3 c127_25) (c := 34) rfl (by decide) ?_)
  refine i_push (n := 2) (cc3 c127_28) (by decide) (i_push (n := (-8)) (cc3 c127_29) (by decide) ?_)
  refine n_asti hΦ (c := 34) (n := 1920) (ni := 1920) (hv := rfl) (cc3 c127_31) (by decide) rfl rfl rfl (by decide) (by decide) ?_
  refine p_ald (cc3 c127_32) rfl (pm_getp hΦ (cc3 c127_33) (c := 34) rfl (by decide) ?_)
  refine i_push (n := 3) (cc3 c127_36) (by decide) (i_push (n := 10001) (cc3 c127_37) (by decide) ?_)
  refine n_asti hΦ (c := 34) (n := 1920) (ni := 1920) (hv := rfl) (cc3 c127_40) (by decide) rfl rfl rfl (by decide) (by decide) ?_
  refine p_ald (cc3 c127_41) rfl (pm_getp hΦ (cc3 c127_42) (c := 34) rfl (by decide) ?_)
  refine i_push (n := 4) (cc3 c127_45) (by decide) (i_push (n := 10) (cc3 c127_46) (by decide) ?_)
  refine n_asti hΦ (c := 34) (n := 1920) (ni := 1920) (hv := rfl) (cc3 c127_48) (by decide) rfl rfl rfl (by decide) (by decide) ?_
  refine p_ald (cc3 c127_49) rfl (pm_getp hΦ (cc3 c127_50) (c := 34) rfl (by decide) ?_)
  refine i_push (n := 5) (cc3 c127_53) (by decide) (i_push (n := (-8)) (cc3 c127_54) (by decide) ?_)
  refine n_asti hΦ (c := 34) (n := 1920) (ni := 1920) (hv := rfl) (cc3 c127_56) (by decide) rfl rfl rfl (by decide) (by decide) ?_
  refine p_ald (cc3 c127_57) rfl (pm_getp hΦ (cc3 c127_58) (c := 34) rfl (by decide) ?_)
  refine i_push (n := 6) (cc3 c127_61) (by decide) (i_push (n := (-6)) (cc3 c127_63) (by decide) ?_)
  refine n_asti hΦ (c := 34) (n := 1920) (ni := 1920) (hv := rfl) (cc3 c127_65) (by decide) rfl rfl rfl (by decide) (by decide) ?_
  refine p_ald (cc3 c127_66) rfl (pm_getp hΦ (cc3 c127_67) (c := 33) rfl (by decide) ?_)
  refine i_push (n := 1) (cc3 c127_70) (by decide) (i_push (n := 3) (cc3 c127_71) (by decide) ?_)
  refine n_asti hΦ (c := 33) (n := 12) (ni := 12) (hv := rfl) (cc3 c127_72) (by decide) rfl rfl rfl (by decide) (by decide) ?_
  refine p_ald (cc3 c127_73) rfl (pm_getp hΦ (cc3 c127_74) (c := 34) rfl (by decide) ?_)
  refine i_push (n := 160) (cc3 c127_77) (by decide) (i_push (n := 10003) (cc3 c127_80) (by decide) ?_)
  refine n_asti hΦ (c := 34) (n := 1920) (ni := 1920) (hv := rfl) (cc3 c127_83) (by decide) rfl rfl rfl (by decide) (by decide) ?_
  refine p_ald (cc3 c127_84) rfl (pm_getp hΦ (cc3 c127_85) (c := 34) rfl (by decide) ?_)
  refine i_push (n := 161) (cc3 c127_88) (by decide) (i_push (n := 10002) (cc3 c127_91) (by decide) ?_)
  refine n_asti hΦ (c := 34) (n := 1920) (ni := 1920) (hv := rfl) (cc3 c127_94) (by decide) rfl rfl rfl (by decide) (by decide) ?_
  refine p_ald (cc3 c127_95) rfl (pm_getp hΦ (cc3 c127_96) (c := 34) rfl (by decide) ?_)
  refine i_push (n := 162) (cc3 c127_99) (by decide) (i_push (n := (-4)) (cc3 c127_102) (by decide) ?_)
  refine n_asti hΦ (c := 34) (n := 1920) (ni := 1920) (hv := rfl) (cc3 c127_104) (by decide) rfl rfl rfl (by decide) (by decide) ?_
  exact p_rv (cc3 c127_105) ⟨rfl, rfl⟩
theorem mpf_67 {j : Nat} (h : 0 < mpf j) : j < 67 := by
  apply Classical.byContradiction
  intro q
  have e : mpf j = 0 := by
    unfold mpf
    rw [List.getD_eq_getElem?_getD, List.getElem?_eq_none (by simpa using q)]
    rfl
  omega
theorem mo_UA {A : Nat → Int → Int} {c : Nat} {j v : Int} : mo (UA A (1000 + c) j v) = UA (mo A) c j v := by
  funext q i
  show UA A (1000 + c) j v (1000 + q) i = UA (mo A) c j v q i
  by_cases e : q = c
  · subst e
    by_cases e2 : i = j
    · subst e2; rw [UA_eq, UA_eq]
    · rw [UA_j e2, UA_j e2]; rfl
  · rw [UA_n (by omega), UA_n e]; rfl
/-- the numbers with which the model begins -/
def mZ : Nat → Int → Int := mRZ (UA (UA (UA (UA (UA (UA (UA (UA (UA (UA (UA (UA (UA (fun _ _ => 0) 0 42 1) 41 0 (-1)) 41 1 (-1)) 41 2 (-1)) 41 3 (-1)) 41 4 (-1)) 41 5 (-1)) 41 6 (-1)) 41 7 (-1)) 43 0 (-1)) 43 1 (-1)) 43 2 (-1)) 43 3 (-1))
theorem S126 {d : Nat} (hd : 2 ≤ d) {W0 W : gW} {P0 P : Nat → Int → Nat} {A : Nat → Int → Int} (h : IniM W0 P0 W P 1 0) (hA : ∀ c, A (1000 + c) = fun _ => 0) (hP : ∀ c, 1000 < c → P0 c = fun _ => 0) : ∃ (W' : gW) (P' : Nat → Int → Nat), xev xT d 126 [.ref (lo W 1000)] (Wm W A P) none (Wm W' (pA A mZ) P') ∧ IniM W0 P0 W' P' 46 67 ∧ lo W' 1000 = lo W 1000 := by
  refine xev_g (i := 126) (as := [.ref (lo W 1000)]) (σ := Wm W A P) (Q := fun r σ => ∃ (W' : gW) (P' : Nat → Int → Nat), r = none ∧ σ = Wm W' (pA A mZ) P' ∧ IniM W0 P0 W' P' 46 67 ∧ lo W' 1000 = lo W 1000) (D := 1) hd (Nat.le_of_ble_eq_true rfl) (fun r σ he hq => ?_) (fun d hd => ?_)
  · obtain ⟨W', P', rfl, rfl, h1, h2⟩ := hq
    exact ⟨W', P', he, h1, h2⟩
  have z0 : mo A = fun _ _ => 0 := funext fun c => hA c
  have hmo : mo (UA (UA (UA (UA (UA (UA (UA (UA (UA (UA (UA (UA (UA (A) 1000 42 1) (1000 + 41) 0 (-1)) (1000 + 41) 1 (-1)) (1000 + 41) 2 (-1)) (1000 + 41) 3 (-1)) (1000 + 41) 4 (-1)) (1000 + 41) 5 (-1)) (1000 + 41) 6 (-1)) (1000 + 41) 7 (-1)) (1000 + 43) 0 (-1)) (1000 + 43) 1 (-1)) (1000 + 43) 2 (-1)) (1000 + 43) 3 (-1)) = UA (UA (UA (UA (UA (UA (UA (UA (UA (UA (UA (UA (UA (fun _ _ => 0) 0 42 1) 41 0 (-1)) 41 1 (-1)) 41 2 (-1)) 41 3 (-1)) 41 4 (-1)) 41 5 (-1)) 41 6 (-1)) 41 7 (-1)) 43 0 (-1)) 43 1 (-1)) 43 2 (-1)) 43 3 (-1) := by
    show mo (UA (UA (UA (UA (UA (UA (UA (UA (UA (UA (UA (UA (UA (A) (1000 + 0) 42 1) (1000 + 41) 0 (-1)) (1000 + 41) 1 (-1)) (1000 + 41) 2 (-1)) (1000 + 41) 3 (-1)) (1000 + 41) 4 (-1)) (1000 + 41) 5 (-1)) (1000 + 41) 6 (-1)) (1000 + 41) 7 (-1)) (1000 + 43) 0 (-1)) (1000 + 43) 1 (-1)) (1000 + 43) 2 (-1)) (1000 + 43) 3 (-1)) = _
    simp only [mo_UA, z0]
  have hpa : ∀ M, pA (UA (UA (UA (UA (UA (UA (UA (UA (UA (UA (UA (UA (UA (A) 1000 42 1) (1000 + 41) 0 (-1)) (1000 + 41) 1 (-1)) (1000 + 41) 2 (-1)) (1000 + 41) 3 (-1)) (1000 + 41) 4 (-1)) (1000 + 41) 5 (-1)) (1000 + 41) 6 (-1)) (1000 + 41) 7 (-1)) (1000 + 43) 0 (-1)) (1000 + 43) 1 (-1)) (1000 + 43) 2 (-1)) (1000 + 43) 3 (-1)) M = pA A M := fun M => by
    funext c
    unfold pA
    by_cases q : c < 1000
    · rw [if_pos q, if_pos q]
      rw [UA_n (show ¬ c = 1000 + 43 by omega), UA_n (show ¬ c = 1000 + 43 by omega), UA_n (show ¬ c = 1000 + 43 by omega), UA_n (show ¬ c = 1000 + 43 by omega), UA_n (show ¬ c = 1000 + 41 by omega), UA_n (show ¬ c = 1000 + 41 by omega), UA_n (show ¬ c = 1000 + 41 by omega), UA_n (show ¬ c = 1000 + 41 by omega), UA_n (show ¬ c = 1000 + 41 by omega), UA_n (show ¬ c = 1000 + 41 by omega), UA_n (show ¬ c = 1000 + 41 by omega), UA_n (show ¬ c = 1000 + 41 by omega), UA_n (show ¬ c = 1000 + 0 by omega)]
    · rw [if_neg q, if_neg q]
  refine p_ald (cc3 c126_0) rfl ?_
  refine p_obj (cc3 c126_1) (Nat.le_of_ble_eq_true rfl) ?_
  refine ini_m h (hA 1) (hP 1001 (by decide)) ⟨by decide, rfl, rfl, rfl, by decide, by decide⟩ (by decide) c126_4 c126_5 c126_8 c126_10 (fun W1 P1 h1 l1 => ?_)
  rw [← l1]; have h : IniM W0 P0 W1 P1 2 1 := h1; clear l1
  refine ini_i0 h ⟨by decide, rfl⟩ (by exact congrFun (hA 0) _) (by decide) c126_13 c126_14 c126_15 (fun h1 => ?_)
  have h : IniM W0 P0 _ _ 2 2 := h1
  refine ini_i0 h ⟨by decide, rfl⟩ (by exact congrFun (hA 0) _) (by decide) c126_18 c126_19 c126_20 (fun h1 => ?_)
  have h : IniM W0 P0 _ _ 2 3 := h1
  refine ini_m h (hA 2) (hP 1002 (by decide)) ⟨by decide, rfl, rfl, rfl, by decide, by decide⟩ (by decide) c126_23 c126_24 c126_25 c126_27 (fun W1 P1 h1 l1 => ?_)
  rw [← l1]; have h : IniM W0 P0 W1 P1 3 4 := h1; clear l1
  refine ini_m h (hA 3) (hP 1003 (by decide)) ⟨by decide, rfl, rfl, rfl, by decide, by decide⟩ (by decide) c126_30 c126_31 c126_32 c126_34 (fun W1 P1 h1 l1 => ?_)
  rw [← l1]; have h : IniM W0 P0 W1 P1 4 5 := h1; clear l1
  refine ini_m h (hA 4) (hP 1004 (by decide)) ⟨by decide, rfl, rfl, rfl, by decide, by decide⟩ (by decide) c126_37 c126_38 c126_40 c126_42 (fun W1 P1 h1 l1 => ?_)
  rw [← l1]; have h : IniM W0 P0 W1 P1 5 6 := h1; clear l1
  refine ini_m h (hA 5) (hP 1005 (by decide)) ⟨by decide, rfl, rfl, rfl, by decide, by decide⟩ (by decide) c126_45 c126_46 c126_48 c126_50 (fun W1 P1 h1 l1 => ?_)
  rw [← l1]; have h : IniM W0 P0 W1 P1 6 7 := h1; clear l1
  refine ini_m h (hA 6) (hP 1006 (by decide)) ⟨by decide, rfl, rfl, rfl, by decide, by decide⟩ (by decide) c126_53 c126_54 c126_55 c126_57 (fun W1 P1 h1 l1 => ?_)
  rw [← l1]; have h : IniM W0 P0 W1 P1 7 8 := h1; clear l1
  refine ini_i0 h ⟨by decide, rfl⟩ (by exact congrFun (hA 0) _) (by decide) c126_60 c126_61 c126_62 (fun h1 => ?_)
  have h : IniM W0 P0 _ _ 7 9 := h1
  refine ini_m h (hA 7) (hP 1007 (by decide)) ⟨by decide, rfl, rfl, rfl, by decide, by decide⟩ (by decide) c126_65 c126_66 c126_67 c126_69 (fun W1 P1 h1 l1 => ?_)
  rw [← l1]; have h : IniM W0 P0 W1 P1 8 10 := h1; clear l1
  refine ini_m h (hA 8) (hP 1008 (by decide)) ⟨by decide, rfl, rfl, rfl, by decide, by decide⟩ (by decide) c126_72 c126_73 c126_74 c126_76 (fun W1 P1 h1 l1 => ?_)
  rw [← l1]; have h : IniM W0 P0 W1 P1 9 11 := h1; clear l1
  refine ini_m h (hA 9) (hP 1009 (by decide)) ⟨by decide, rfl, rfl, rfl, by decide, by decide⟩ (by decide) c126_79 c126_80 c126_81 c126_83 (fun W1 P1 h1 l1 => ?_)
  rw [← l1]; have h : IniM W0 P0 W1 P1 10 12 := h1; clear l1
  refine ini_m h (hA 10) (hP 1010 (by decide)) ⟨by decide, rfl, rfl, rfl, by decide, by decide⟩ (by decide) c126_86 c126_87 c126_89 c126_91 (fun W1 P1 h1 l1 => ?_)
  rw [← l1]; have h : IniM W0 P0 W1 P1 11 13 := h1; clear l1
  refine ini_i0 h ⟨by decide, rfl⟩ (by exact congrFun (hA 0) _) (by decide) c126_94 c126_95 c126_96 (fun h1 => ?_)
  have h : IniM W0 P0 _ _ 11 14 := h1
  refine ini_m h (hA 11) (hP 1011 (by decide)) ⟨by decide, rfl, rfl, rfl, by decide, by decide⟩ (by decide) c126_99 c126_100 c126_102 c126_104 (fun W1 P1 h1 l1 => ?_)
  rw [← l1]; have h : IniM W0 P0 W1 P1 12 15 := h1; clear l1
  refine ini_m h (hA 12) (hP 1012 (by decide)) ⟨by decide, rfl, rfl, rfl, by decide, by decide⟩ (by decide) c126_107 c126_108 c126_110 c126_112 (fun W1 P1 h1 l1 => ?_)
  rw [← l1]; have h : IniM W0 P0 W1 P1 13 16 := h1; clear l1
  refine ini_m h (hA 13) (hP 1013 (by decide)) ⟨by decide, rfl, rfl, rfl, by decide, by decide⟩ (by decide) c126_115 c126_116 c126_118 c126_120 (fun W1 P1 h1 l1 => ?_)
  rw [← l1]; have h : IniM W0 P0 W1 P1 14 17 := h1; clear l1
  refine ini_m h (hA 14) (hP 1014 (by decide)) ⟨by decide, rfl, rfl, rfl, by decide, by decide⟩ (by decide) c126_123 c126_124 c126_126 c126_128 (fun W1 P1 h1 l1 => ?_)
  rw [← l1]; have h : IniM W0 P0 W1 P1 15 18 := h1; clear l1
  refine ini_m h (hA 15) (hP 1015 (by decide)) ⟨by decide, rfl, rfl, rfl, by decide, by decide⟩ (by decide) c126_131 c126_132 c126_134 c126_136 (fun W1 P1 h1 l1 => ?_)
  rw [← l1]; have h : IniM W0 P0 W1 P1 16 19 := h1; clear l1
  refine ini_m h (hA 16) (hP 1016 (by decide)) ⟨by decide, rfl, rfl, rfl, by decide, by decide⟩ (by decide) c126_139 c126_140 c126_142 c126_144 (fun W1 P1 h1 l1 => ?_)
  rw [← l1]; have h : IniM W0 P0 W1 P1 17 20 := h1; clear l1
  refine ini_m h (hA 17) (hP 1017 (by decide)) ⟨by decide, rfl, rfl, rfl, by decide, by decide⟩ (by decide) c126_147 c126_148 c126_150 c126_152 (fun W1 P1 h1 l1 => ?_)
  rw [← l1]; have h : IniM W0 P0 W1 P1 18 21 := h1; clear l1
  refine ini_m h (hA 18) (hP 1018 (by decide)) ⟨by decide, rfl, rfl, rfl, by decide, by decide⟩ (by decide) c126_155 c126_156 c126_158 c126_160 (fun W1 P1 h1 l1 => ?_)
  rw [← l1]; have h : IniM W0 P0 W1 P1 19 22 := h1; clear l1
  refine ini_m h (hA 19) (hP 1019 (by decide)) ⟨by decide, rfl, rfl, rfl, by decide, by decide⟩ (by decide) c126_163 c126_164 c126_166 c126_168 (fun W1 P1 h1 l1 => ?_)
  rw [← l1]; have h : IniM W0 P0 W1 P1 20 23 := h1; clear l1
  refine ini_m h (hA 20) (hP 1020 (by decide)) ⟨by decide, rfl, rfl, rfl, by decide, by decide⟩ (by decide) c126_171 c126_172 c126_174 c126_176 (fun W1 P1 h1 l1 => ?_)
  rw [← l1]; have h : IniM W0 P0 W1 P1 21 24 := h1; clear l1
  refine ini_m h (hA 21) (hP 1021 (by decide)) ⟨by decide, rfl, rfl, rfl, by decide, by decide⟩ (by decide) c126_179 c126_180 c126_182 c126_184 (fun W1 P1 h1 l1 => ?_)
  rw [← l1]; have h : IniM W0 P0 W1 P1 22 25 := h1; clear l1
  refine ini_m h (hA 22) (hP 1022 (by decide)) ⟨by decide, rfl, rfl, rfl, by decide, by decide⟩ (by decide) c126_187 c126_188 c126_190 c126_192 (fun W1 P1 h1 l1 => ?_)
  rw [← l1]; have h : IniM W0 P0 W1 P1 23 26 := h1; clear l1
  refine ini_m h (hA 23) (hP 1023 (by decide)) ⟨by decide, rfl, rfl, rfl, by decide, by decide⟩ (by decide) c126_195 c126_196 c126_198 c126_200 (fun W1 P1 h1 l1 => ?_)
  rw [← l1]; have h : IniM W0 P0 W1 P1 24 27 := h1; clear l1
  refine ini_m h (hA 24) (hP 1024 (by decide)) ⟨by decide, rfl, rfl, rfl, by decide, by decide⟩ (by decide) c126_203 c126_204 c126_206 c126_208 (fun W1 P1 h1 l1 => ?_)
  rw [← l1]; have h : IniM W0 P0 W1 P1 25 28 := h1; clear l1
  refine ini_m h (hA 25) (hP 1025 (by decide)) ⟨by decide, rfl, rfl, rfl, by decide, by decide⟩ (by decide) c126_211 c126_212 c126_214 c126_216 (fun W1 P1 h1 l1 => ?_)
  rw [← l1]; have h : IniM W0 P0 W1 P1 26 29 := h1; clear l1
  refine ini_m h (hA 26) (hP 1026 (by decide)) ⟨by decide, rfl, rfl, rfl, by decide, by decide⟩ (by decide) c126_219 c126_220 c126_223 c126_225 (fun W1 P1 h1 l1 => ?_)
  rw [← l1]; have h : IniM W0 P0 W1 P1 27 30 := h1; clear l1
  refine ini_m h (hA 27) (hP 1027 (by decide)) ⟨by decide, rfl, rfl, rfl, by decide, by decide⟩ (by decide) c126_228 c126_229 c126_232 c126_234 (fun W1 P1 h1 l1 => ?_)
  rw [← l1]; have h : IniM W0 P0 W1 P1 28 31 := h1; clear l1
  refine ini_m h (hA 28) (hP 1028 (by decide)) ⟨by decide, rfl, rfl, rfl, by decide, by decide⟩ (by decide) c126_237 c126_238 c126_240 c126_242 (fun W1 P1 h1 l1 => ?_)
  rw [← l1]; have h : IniM W0 P0 W1 P1 29 32 := h1; clear l1
  refine ini_i0 h ⟨by decide, rfl⟩ (by exact congrFun (hA 0) _) (by decide) c126_245 c126_246 c126_247 (fun h1 => ?_)
  have h : IniM W0 P0 _ _ 29 33 := h1
  refine ini_i0 h ⟨by decide, rfl⟩ (by exact congrFun (hA 0) _) (by decide) c126_250 c126_251 c126_252 (fun h1 => ?_)
  have h : IniM W0 P0 _ _ 29 34 := h1
  refine ini_m h (hA 29) (hP 1029 (by decide)) ⟨by decide, rfl, rfl, rfl, by decide, by decide⟩ (by decide) c126_255 c126_256 c126_258 c126_260 (fun W1 P1 h1 l1 => ?_)
  rw [← l1]; have h : IniM W0 P0 W1 P1 30 35 := h1; clear l1
  refine ini_m h (hA 30) (hP 1030 (by decide)) ⟨by decide, rfl, rfl, rfl, by decide, by decide⟩ (by decide) c126_263 c126_264 c126_267 c126_269 (fun W1 P1 h1 l1 => ?_)
  rw [← l1]; have h : IniM W0 P0 W1 P1 31 36 := h1; clear l1
  refine ini_i0 h ⟨by decide, rfl⟩ (by exact congrFun (hA 0) _) (by decide) c126_272 c126_273 c126_274 (fun h1 => ?_)
  have h : IniM W0 P0 _ _ 31 37 := h1
  refine ini_m h (hA 31) (hP 1031 (by decide)) ⟨by decide, rfl, rfl, rfl, by decide, by decide⟩ (by decide) c126_277 c126_278 c126_280 c126_282 (fun W1 P1 h1 l1 => ?_)
  rw [← l1]; have h : IniM W0 P0 W1 P1 32 38 := h1; clear l1
  refine ini_m h (hA 32) (hP 1032 (by decide)) ⟨by decide, rfl, rfl, rfl, by decide, by decide⟩ (by decide) c126_285 c126_286 c126_288 c126_290 (fun W1 P1 h1 l1 => ?_)
  rw [← l1]; have h : IniM W0 P0 W1 P1 33 39 := h1; clear l1
  refine ini_i0 h ⟨by decide, rfl⟩ (by exact congrFun (hA 0) _) (by decide) c126_293 c126_294 c126_295 (fun h1 => ?_)
  have h : IniM W0 P0 _ _ 33 40 := h1
  refine ini_i0 h ⟨by decide, rfl⟩ (by exact congrFun (hA 0) _) (by decide) c126_298 c126_299 c126_300 (fun h1 => ?_)
  have h : IniM W0 P0 _ _ 33 41 := h1
  refine ini_i0 h ⟨by decide, rfl⟩ (by exact congrFun (hA 0) _) (by decide) c126_303 c126_304 c126_305 (fun h1 => ?_)
  have h : IniM W0 P0 _ _ 33 42 := h1
  refine ini_i (x := 1) h ⟨by decide, rfl⟩ (by decide) c126_308 c126_309 c126_310 (fun h1 => ?_)
  have h : IniM W0 P0 _ _ 33 43 := h1
  refine ini_i0 h ⟨by decide, rfl⟩ (by rw [UA_j (show ¬ ((43 : Nat) : Int) = ((42 : Nat) : Int) by decide)]; exact congrFun (hA 0) _) (by decide) c126_313 c126_314 c126_315 (fun h1 => ?_)
  have h : IniM W0 P0 _ _ 33 44 := h1
  refine ini_m h (by rw [UA_n (show ¬ 1000 + 33 = 1000 by decide)]; exact hA 33) (hP 1033 (by decide)) ⟨by decide, rfl, rfl, rfl, by decide, by decide⟩ (by decide) c126_318 c126_319 c126_321 c126_323 (fun W1 P1 h1 l1 => ?_)
  rw [← l1]; have h : IniM W0 P0 W1 P1 34 45 := h1; clear l1
  refine ini_m h (by rw [UA_n (show ¬ 1000 + 34 = 1000 by decide)]; exact hA 34) (hP 1034 (by decide)) ⟨by decide, rfl, rfl, rfl, by decide, by decide⟩ (by decide) c126_326 c126_327 c126_330 c126_332 (fun W1 P1 h1 l1 => ?_)
  rw [← l1]; have h : IniM W0 P0 W1 P1 35 46 := h1; clear l1
  refine ini_i0 h ⟨by decide, rfl⟩ (by rw [UA_j (show ¬ ((46 : Nat) : Int) = ((42 : Nat) : Int) by decide)]; exact congrFun (hA 0) _) (by decide) c126_335 c126_336 c126_337 (fun h1 => ?_)
  have h : IniM W0 P0 _ _ 35 47 := h1
  refine ini_i0 h ⟨by decide, rfl⟩ (by rw [UA_j (show ¬ ((47 : Nat) : Int) = ((42 : Nat) : Int) by decide)]; exact congrFun (hA 0) _) (by decide) c126_340 c126_341 c126_342 (fun h1 => ?_)
  have h : IniM W0 P0 _ _ 35 48 := h1
  refine ini_i0 h ⟨by decide, rfl⟩ (by rw [UA_j (show ¬ ((48 : Nat) : Int) = ((42 : Nat) : Int) by decide)]; exact congrFun (hA 0) _) (by decide) c126_345 c126_346 c126_347 (fun h1 => ?_)
  have h : IniM W0 P0 _ _ 35 49 := h1
  refine ini_i0 h ⟨by decide, rfl⟩ (by rw [UA_j (show ¬ ((49 : Nat) : Int) = ((42 : Nat) : Int) by decide)]; exact congrFun (hA 0) _) (by decide) c126_350 c126_351 c126_352 (fun h1 => ?_)
  have h : IniM W0 P0 _ _ 35 50 := h1
  refine ini_m h (by rw [UA_n (show ¬ 1000 + 35 = 1000 by decide)]; exact hA 35) (hP 1035 (by decide)) ⟨by decide, rfl, rfl, rfl, by decide, by decide⟩ (by decide) c126_355 c126_356 c126_359 c126_361 (fun W1 P1 h1 l1 => ?_)
  rw [← l1]; have h : IniM W0 P0 W1 P1 36 51 := h1; clear l1
  refine ini_m h (by rw [UA_n (show ¬ 1000 + 36 = 1000 by decide)]; exact hA 36) (hP 1036 (by decide)) ⟨by decide, rfl, rfl, rfl, by decide, by decide⟩ (by decide) c126_364 c126_365 c126_367 c126_369 (fun W1 P1 h1 l1 => ?_)
  rw [← l1]; have h : IniM W0 P0 W1 P1 37 52 := h1; clear l1
  refine ini_i0 h ⟨by decide, rfl⟩ (by rw [UA_j (show ¬ ((52 : Nat) : Int) = ((42 : Nat) : Int) by decide)]; exact congrFun (hA 0) _) (by decide) c126_372 c126_373 c126_374 (fun h1 => ?_)
  have h : IniM W0 P0 _ _ 37 53 := h1
  refine ini_i0 h ⟨by decide, rfl⟩ (by rw [UA_j (show ¬ ((53 : Nat) : Int) = ((42 : Nat) : Int) by decide)]; exact congrFun (hA 0) _) (by decide) c126_377 c126_378 c126_379 (fun h1 => ?_)
  have h : IniM W0 P0 _ _ 37 54 := h1
  refine ini_i0 h ⟨by decide, rfl⟩ (by rw [UA_j (show ¬ ((54 : Nat) : Int) = ((42 : Nat) : Int) by decide)]; exact congrFun (hA 0) _) (by decide) c126_382 c126_383 c126_384 (fun h1 => ?_)
  have h : IniM W0 P0 _ _ 37 55 := h1
  refine ini_i0 h ⟨by decide, rfl⟩ (by rw [UA_j (show ¬ ((55 : Nat) : Int) = ((42 : Nat) : Int) by decide)]; exact congrFun (hA 0) _) (by decide) c126_387 c126_388 c126_389 (fun h1 => ?_)
  have h : IniM W0 P0 _ _ 37 56 := h1
  refine ini_m h (by rw [UA_n (show ¬ 1000 + 37 = 1000 by decide)]; exact hA 37) (hP 1037 (by decide)) ⟨by decide, rfl, rfl, rfl, by decide, by decide⟩ (by decide) c126_392 c126_393 c126_395 c126_397 (fun W1 P1 h1 l1 => ?_)
  rw [← l1]; have h : IniM W0 P0 W1 P1 38 57 := h1; clear l1
  refine ini_m h (by rw [UA_n (show ¬ 1000 + 38 = 1000 by decide)]; exact hA 38) (hP 1038 (by decide)) ⟨by decide, rfl, rfl, rfl, by decide, by decide⟩ (by decide) c126_400 c126_401 c126_404 c126_406 (fun W1 P1 h1 l1 => ?_)
  rw [← l1]; have h : IniM W0 P0 W1 P1 39 58 := h1; clear l1
  refine ini_m h (by rw [UA_n (show ¬ 1000 + 39 = 1000 by decide)]; exact hA 39) (hP 1039 (by decide)) ⟨by decide, rfl, rfl, rfl, by decide, by decide⟩ (by decide) c126_409 c126_410 c126_412 c126_414 (fun W1 P1 h1 l1 => ?_)
  rw [← l1]; have h : IniM W0 P0 W1 P1 40 59 := h1; clear l1
  refine ini_m h (by rw [UA_n (show ¬ 1000 + 40 = 1000 by decide)]; exact hA 40) (hP 1040 (by decide)) ⟨by decide, rfl, rfl, rfl, by decide, by decide⟩ (by decide) c126_417 c126_418 c126_420 c126_422 (fun W1 P1 h1 l1 => ?_)
  rw [← l1]; have h : IniM W0 P0 W1 P1 41 60 := h1; clear l1
  refine ini_b h (by rw [UA_n (show ¬ 1000 + 41 = 1000 by decide)]; exact hA 41) (hP 1041 (by decide)) ⟨by decide, rfl, rfl, rfl, by decide, by decide⟩ (by decide) c126_425 c126_426 c126_428 (fun W1 hW1 kc lc k13 h1 l1 => ?_)
  refine ini_s (x := (-1)) (i := 0) hW1 kc (by rw [lc]; decide) (by decide) (by decide) (by decide) c126_430 c126_431 c126_432 c126_433 ?_
  refine ini_s (x := (-1)) (i := 1) hW1 kc (by rw [lc]; decide) (by decide) (by decide) (by decide) c126_434 c126_435 c126_436 c126_437 ?_
  refine ini_s (x := (-1)) (i := 2) hW1 kc (by rw [lc]; decide) (by decide) (by decide) (by decide) c126_438 c126_439 c126_440 c126_441 ?_
  refine ini_s (x := (-1)) (i := 3) hW1 kc (by rw [lc]; decide) (by decide) (by decide) (by decide) c126_442 c126_443 c126_444 c126_445 ?_
  refine ini_s (x := (-1)) (i := 4) hW1 kc (by rw [lc]; decide) (by decide) (by decide) (by decide) c126_446 c126_447 c126_448 c126_449 ?_
  refine ini_s (x := (-1)) (i := 5) hW1 kc (by rw [lc]; decide) (by decide) (by decide) (by decide) c126_450 c126_451 c126_452 c126_453 ?_
  refine ini_s (x := (-1)) (i := 6) hW1 kc (by rw [lc]; decide) (by decide) (by decide) (by decide) c126_454 c126_455 c126_457 c126_458 ?_
  refine ini_s (x := (-1)) (i := 7) hW1 kc (by rw [lc]; decide) (by decide) (by decide) (by decide) c126_459 c126_460 c126_462 c126_463 ?_
  refine w_putp hW1 (cc3 c126_464) k13 (ji := ((60 : Nat) : Int)) rfl (kn kc) ?_
  rw [← l1]; have h : IniM W0 P0 W1 _ 42 61 := h1; clear l1 kc lc k13 hW1
  refine ini_m h (by rw [UA_n (show ¬ 1000 + 42 = 1000 + 41 by decide), UA_n (show ¬ 1000 + 42 = 1000 + 41 by decide), UA_n (show ¬ 1000 + 42 = 1000 + 41 by decide), UA_n (show ¬ 1000 + 42 = 1000 + 41 by decide), UA_n (show ¬ 1000 + 42 = 1000 + 41 by decide), UA_n (show ¬ 1000 + 42 = 1000 + 41 by decide), UA_n (show ¬ 1000 + 42 = 1000 + 41 by decide), UA_n (show ¬ 1000 + 42 = 1000 + 41 by decide), UA_n (show ¬ 1000 + 42 = 1000 by decide)]; exact hA 42) (hP 1042 (by decide)) ⟨by decide, rfl, rfl, rfl, by decide, by decide⟩ (by decide) c126_467 c126_468 c126_469 c126_471 (fun W1 P1 h1 l1 => ?_)
  rw [← l1]; have h : IniM W0 P0 W1 P1 43 62 := h1; clear l1
  refine ini_i0 h ⟨by decide, rfl⟩ (by rw [UA_n (show ¬ 1000 = 1000 + 41 by decide), UA_n (show ¬ 1000 = 1000 + 41 by decide), UA_n (show ¬ 1000 = 1000 + 41 by decide), UA_n (show ¬ 1000 = 1000 + 41 by decide), UA_n (show ¬ 1000 = 1000 + 41 by decide), UA_n (show ¬ 1000 = 1000 + 41 by decide), UA_n (show ¬ 1000 = 1000 + 41 by decide), UA_n (show ¬ 1000 = 1000 + 41 by decide), UA_j (show ¬ ((62 : Nat) : Int) = ((42 : Nat) : Int) by decide)]; exact congrFun (hA 0) _) (by decide) c126_474 c126_475 c126_476 (fun h1 => ?_)
  have h : IniM W0 P0 _ _ 43 63 := h1
  refine ini_i0 h ⟨by decide, rfl⟩ (by rw [UA_n (show ¬ 1000 = 1000 + 41 by decide), UA_n (show ¬ 1000 = 1000 + 41 by decide), UA_n (show ¬ 1000 = 1000 + 41 by decide), UA_n (show ¬ 1000 = 1000 + 41 by decide), UA_n (show ¬ 1000 = 1000 + 41 by decide), UA_n (show ¬ 1000 = 1000 + 41 by decide), UA_n (show ¬ 1000 = 1000 + 41 by decide), UA_n (show ¬ 1000 = 1000 + 41 by decide), UA_j (show ¬ ((63 : Nat) : Int) = ((42 : Nat) : Int) by decide)]; exact congrFun (hA 0) _) (by decide) c126_479 c126_480 c126_481 (fun h1 => ?_)
  have h : IniM W0 P0 _ _ 43 64 := h1
  refine ini_b h (by rw [UA_n (show ¬ 1000 + 43 = 1000 + 41 by decide), UA_n (show ¬ 1000 + 43 = 1000 + 41 by decide), UA_n (show ¬ 1000 + 43 = 1000 + 41 by decide), UA_n (show ¬ 1000 + 43 = 1000 + 41 by decide), UA_n (show ¬ 1000 + 43 = 1000 + 41 by decide), UA_n (show ¬ 1000 + 43 = 1000 + 41 by decide), UA_n (show ¬ 1000 + 43 = 1000 + 41 by decide), UA_n (show ¬ 1000 + 43 = 1000 + 41 by decide), UA_n (show ¬ 1000 + 43 = 1000 by decide)]; exact hA 43) (hP 1043 (by decide)) ⟨by decide, rfl, rfl, rfl, by decide, by decide⟩ (by decide) c126_484 c126_485 c126_486 (fun W1 hW1 kc lc k13 h1 l1 => ?_)
  refine ini_s (x := (-1)) (i := 0) hW1 kc (by rw [lc]; decide) (by decide) (by decide) (by decide) c126_488 c126_489 c126_490 c126_491 ?_
  refine ini_s (x := (-1)) (i := 1) hW1 kc (by rw [lc]; decide) (by decide) (by decide) (by decide) c126_492 c126_493 c126_494 c126_495 ?_
  refine ini_s (x := (-1)) (i := 2) hW1 kc (by rw [lc]; decide) (by decide) (by decide) (by decide) c126_496 c126_497 c126_498 c126_499 ?_
  refine ini_s (x := (-1)) (i := 3) hW1 kc (by rw [lc]; decide) (by decide) (by decide) (by decide) c126_500 c126_501 c126_502 c126_503 ?_
  refine w_putp hW1 (cc3 c126_504) k13 (ji := ((64 : Nat) : Int)) rfl (kn kc) ?_
  rw [← l1]; have h : IniM W0 P0 W1 _ 44 65 := h1; clear l1 kc lc k13 hW1
  refine ini_m h (by rw [UA_n (show ¬ 1000 + 44 = 1000 + 43 by decide), UA_n (show ¬ 1000 + 44 = 1000 + 43 by decide), UA_n (show ¬ 1000 + 44 = 1000 + 43 by decide), UA_n (show ¬ 1000 + 44 = 1000 + 43 by decide), UA_n (show ¬ 1000 + 44 = 1000 + 41 by decide), UA_n (show ¬ 1000 + 44 = 1000 + 41 by decide), UA_n (show ¬ 1000 + 44 = 1000 + 41 by decide), UA_n (show ¬ 1000 + 44 = 1000 + 41 by decide), UA_n (show ¬ 1000 + 44 = 1000 + 41 by decide), UA_n (show ¬ 1000 + 44 = 1000 + 41 by decide), UA_n (show ¬ 1000 + 44 = 1000 + 41 by decide), UA_n (show ¬ 1000 + 44 = 1000 + 41 by decide), UA_n (show ¬ 1000 + 44 = 1000 by decide)]; exact hA 44) (hP 1044 (by decide)) ⟨by decide, rfl, rfl, rfl, by decide, by decide⟩ (by decide) c126_507 c126_508 c126_509 c126_511 (fun W1 P1 h1 l1 => ?_)
  rw [← l1]; have h : IniM W0 P0 W1 P1 45 66 := h1; clear l1
  refine ini_m h (by rw [UA_n (show ¬ 1000 + 45 = 1000 + 43 by decide), UA_n (show ¬ 1000 + 45 = 1000 + 43 by decide), UA_n (show ¬ 1000 + 45 = 1000 + 43 by decide), UA_n (show ¬ 1000 + 45 = 1000 + 43 by decide), UA_n (show ¬ 1000 + 45 = 1000 + 41 by decide), UA_n (show ¬ 1000 + 45 = 1000 + 41 by decide), UA_n (show ¬ 1000 + 45 = 1000 + 41 by decide), UA_n (show ¬ 1000 + 45 = 1000 + 41 by decide), UA_n (show ¬ 1000 + 45 = 1000 + 41 by decide), UA_n (show ¬ 1000 + 45 = 1000 + 41 by decide), UA_n (show ¬ 1000 + 45 = 1000 + 41 by decide), UA_n (show ¬ 1000 + 45 = 1000 + 41 by decide), UA_n (show ¬ 1000 + 45 = 1000 by decide)]; exact hA 45) (hP 1045 (by decide)) ⟨by decide, rfl, rfl, rfl, by decide, by decide⟩ (by decide) c126_514 c126_515 c126_518 c126_520 (fun W1 P1 h1 l1 => ?_)
  rw [← l1]; have h : IniM W0 P0 W1 P1 46 67 := h1; clear l1
  have hW2 := h.1.1
  have hm := ml_W (A := UA (UA (UA (UA (UA (UA (UA (UA (UA (UA (UA (UA (UA (A) 1000 42 1) (1000 + 41) 0 (-1)) (1000 + 41) 1 (-1)) (1000 + 41) 2 (-1)) (1000 + 41) 3 (-1)) (1000 + 41) 4 (-1)) (1000 + 41) 5 (-1)) (1000 + 41) 6 (-1)) (1000 + 41) 7 (-1)) (1000 + 43) 0 (-1)) (1000 + 43) 1 (-1)) (1000 + 43) 2 (-1)) (1000 + 43) 3 (-1)) h.1.1 h.1.2 ⟨fun c hc => ⟨(h.2.1 c hc).2.2, (h.2.1 c hc).1, (h.2.1 c hc).2.1⟩, fun j hj => h.2.2.2.2.2.2.1 j (mpf_67 hj) hj⟩
  have x := S127 (d := d) (by omega) hm (A := mo (UA (UA (UA (UA (UA (UA (UA (UA (UA (UA (UA (UA (UA (A) 1000 42 1) (1000 + 41) 0 (-1)) (1000 + 41) 1 (-1)) (1000 + 41) 2 (-1)) (1000 + 41) 3 (-1)) (1000 + 41) 4 (-1)) (1000 + 41) 5 (-1)) (1000 + 41) 6 (-1)) (1000 + 41) 7 (-1)) (1000 + 43) 0 (-1)) (1000 + 43) 1 (-1)) (1000 + 43) 2 (-1)) (1000 + 43) 3 (-1)))
  rw [ph_mo, ph_eq, hmo, hpa] at x
  refine p_ald (cc3 c126_523) rfl ?_
  refine p_callV (cc3 c126_524) (Nat.le_of_ble_eq_true rfl) rfl rfl (Nat.le_of_ble_eq_true rfl) (wk_kd hW2 (by decide) (h.2.1 0 (by decide)).1) x ?_
  exact p_rv (cc3 c126_527) ⟨_, _, rfl, rfl, h, rfl⟩
