/-! THE LINK, 6: calls and returns: a run of the small machine is a contract -/
theorem okC_at {a len y : Nat} (h : ((List.range len).all fun i => okC (MTl.getD (a + i) m_0) 0 (MCl.getD (a + i) [])) = true) (h1 : a ≤ y) (h2 : y < a + len) : okC (MTl.getD y m_0) 0 (MCl.getD y []) = true := by
  have := List.all_eq_true.mp h (y - a) (List.mem_range.mpr (by omega))
  rwa [show a + (y - a) = y by omega] at this
theorem okC_low {y : Nat} (h : y < 191) : okC (MTl.getD y m_0) 0 (MCl.getD y []) = true := by
  by_cases h_0 : y < 16
  · exact okC_at okc_0 (by omega) (by omega)
  by_cases h_16 : y < 32
  · exact okC_at okc_16 (by omega) (by omega)
  by_cases h_32 : y < 48
  · exact okC_at okc_32 (by omega) (by omega)
  by_cases h_48 : y < 64
  · exact okC_at okc_48 (by omega) (by omega)
  by_cases h_64 : y < 80
  · exact okC_at okc_64 (by omega) (by omega)
  by_cases h_80 : y < 96
  · exact okC_at okc_80 (by omega) (by omega)
  by_cases h_96 : y < 112
  · exact okC_at okc_96 (by omega) (by omega)
  by_cases h_112 : y < 128
  · exact okC_at okc_112 (by omega) (by omega)
  by_cases h_128 : y < 144
  · exact okC_at okc_128 (by omega) (by omega)
  by_cases h_144 : y < 160
  · exact okC_at okc_144 (by omega) (by omega)
  by_cases h_160 : y < 176
  · exact okC_at okc_160 (by omega) (by omega)
  by_cases h_176 : y < 184
  · exact okC_at okc_176 (by omega) (by omega)
  by_cases h_184 : y < 191
  · exact okC_at okc_184 (by omega) (by omega)
  omega
theorem ok_law {pc : Nat} {e : Ent} (h : (c_191[pc]?).join = some e) : okE m_191 pc e = true := by
  have key : ∀ a len, a ≤ pc → pc < a + len → okC m_191 a ((c_191.drop a).take len) = true → okE m_191 pc e = true := by
    intro a len h1 h2 hc
    have := okC_spec hc (k := pc - a) (e := e) (by
      rw [List.getElem?_take, if_pos (by omega), List.getElem?_drop, show a + (pc - a) = pc by omega]
      exact h)
    rwa [show a + (pc - a) = pc by omega] at this
  have hl : pc < 1000 := by
    have h1 : pc < c_191.length := by
      by_cases hl : pc < c_191.length
      · exact hl
      · rw [List.getElem?_eq_none (by omega)] at h; simp at h
    exact Nat.lt_of_lt_of_le h1 (by decide +kernel)
  by_cases h_0 : pc < 160
  · exact key 0 160 (by omega) (by omega) okc_191_0
  by_cases h_160 : pc < 300
  · exact key 160 140 (by omega) (by omega) okc_191_160
  by_cases h_300 : pc < 440
  · exact key 300 140 (by omega) (by omega) okc_191_300
  by_cases h_440 : pc < 580
  · exact key 440 140 (by omega) (by omega) okc_191_440
  by_cases h_580 : pc < 720
  · exact key 580 140 (by omega) (by omega) okc_191_580
  by_cases h_720 : pc < 1000
  · exact key 720 280 (by omega) (by omega) okc_191_720
  omega
theorem ok_at {y pc : Nat} {e : Ent} {mt : Mth} (hm : MTl[y]? = some mt) (hi : icode MCl y pc = some e) : okE mt pc e = true := by
  have hy : y < 192 := (List.getElem?_eq_some_iff.mp hm).1
  unfold icode at hi
  split at hi
  · rename_i c hc
    by_cases h : y < 191
    · have hC := okC_low h
      rw [List.getD_eq_getElem?_getD, List.getD_eq_getElem?_getD, hm, hc] at hC
      have := okC_spec (mt := mt) (l := c) (pc := 0) hC hi
      rwa [Nat.zero_add] at this
    · have hy2 : y = 191 := by omega
      subst hy2
      cases hm
      cases hc
      exact ok_law hi
  · cases hi
theorem okM_at {t : Nat} {mt : Mth} (hm : MTl[t]? = some mt) (ht : t < 191) (h5 : t ≠ 5) : ∃ w, okM mt w = true := by
  by_cases h_0_191 : t < 95
  ·
    by_cases h_0_95 : t < 47
    ·
      by_cases h_0_47 : t < 23
      ·
        by_cases h_0_23 : t < 11
        ·
          by_cases h_0_11 : t < 5
          ·
            by_cases h_0_5 : t < 2
            ·
              by_cases h_0_2 : t < 1
              ·
                have ht2 : t = 0 := by omega
                subst ht2
                cases hm
                exact ⟨_, okm_0⟩
              ·
                have ht2 : t = 1 := by omega
                subst ht2
                cases hm
                exact ⟨_, okm_1⟩
            ·
              by_cases h_2_5 : t < 3
              ·
                have ht2 : t = 2 := by omega
                subst ht2
                cases hm
                exact ⟨_, okm_2⟩
              ·
                by_cases h_3_5 : t < 4
                ·
                  have ht2 : t = 3 := by omega
                  subst ht2
                  cases hm
                  exact ⟨_, okm_3⟩
                ·
                  have ht2 : t = 4 := by omega
                  subst ht2
                  cases hm
                  exact ⟨_, okm_4⟩
          ·
            by_cases h_5_11 : t < 8
            ·
              by_cases h_5_8 : t < 6
              ·
                omega
              ·
                by_cases h_6_8 : t < 7
                ·
                  have ht2 : t = 6 := by omega
                  subst ht2
                  cases hm
                  exact ⟨_, okm_6⟩
                ·
                  have ht2 : t = 7 := by omega
                  subst ht2
                  cases hm
                  exact ⟨_, okm_7⟩
            ·
              by_cases h_8_11 : t < 9
              ·
                have ht2 : t = 8 := by omega
                subst ht2
                cases hm
                exact ⟨_, okm_8⟩
              ·
                by_cases h_9_11 : t < 10
                ·
                  have ht2 : t = 9 := by omega
                  subst ht2
                  cases hm
                  exact ⟨_, okm_9⟩
                ·
                  have ht2 : t = 10 := by omega
                  subst ht2
                  cases hm
                  exact ⟨_, okm_10⟩
        ·
          by_cases h_11_23 : t < 17
          ·
            by_cases h_11_17 : t < 14
            ·
              by_cases h_11_14 : t < 12
              ·
                have ht2 : t = 11 := by omega
                subst ht2
                cases hm
                exact ⟨_, okm_11⟩
              ·
                by_cases h_12_14 : t < 13
                ·
                  have ht2 : t = 12 := by omega
                  subst ht2
                  cases hm
                  exact ⟨_, okm_12⟩
                ·
                  have ht2 : t = 13 := by omega
                  subst ht2
                  cases hm
                  exact ⟨_, okm_13⟩
            ·
              by_cases h_14_17 : t < 15
              ·
                have ht2 : t = 14 := by omega
                subst ht2
                cases hm
                exact ⟨_, okm_14⟩
              ·
                by_cases h_15_17 : t < 16
                ·
                  have ht2 : t = 15 := by omega
                  subst ht2
                  cases hm
                  exact ⟨_, okm_15⟩
                ·
                  have ht2 : t = 16 := by omega
                  subst ht2
                  cases hm
                  exact ⟨_, okm_16⟩
          ·
            by_cases h_17_23 : t < 20
            ·
              by_cases h_17_20 : t < 18
              ·
                have ht2 : t = 17 := by omega
                subst ht2
                cases hm
                exact ⟨_, okm_17⟩
              ·
                by_cases h_18_20 : t < 19
                ·
                  have ht2 : t = 18 := by omega
                  subst ht2
                  cases hm
                  exact ⟨_, okm_18⟩
                ·
                  have ht2 : t = 19 := by omega
                  subst ht2
                  cases hm
                  exact ⟨_, okm_19⟩
            ·
              by_cases h_20_23 : t < 21
              ·
                have ht2 : t = 20 := by omega
                subst ht2
                cases hm
                exact ⟨_, okm_20⟩
              ·
                by_cases h_21_23 : t < 22
                ·
                  have ht2 : t = 21 := by omega
                  subst ht2
                  cases hm
                  exact ⟨_, okm_21⟩
                ·
                  have ht2 : t = 22 := by omega
                  subst ht2
                  cases hm
                  exact ⟨_, okm_22⟩
      ·
        by_cases h_23_47 : t < 35
        ·
          by_cases h_23_35 : t < 29
          ·
            by_cases h_23_29 : t < 26
            ·
              by_cases h_23_26 : t < 24
              ·
                have ht2 : t = 23 := by omega
                subst ht2
                cases hm
                exact ⟨_, okm_23⟩
              ·
                by_cases h_24_26 : t < 25
                ·
                  have ht2 : t = 24 := by omega
                  subst ht2
                  cases hm
                  exact ⟨_, okm_24⟩
                ·
                  have ht2 : t = 25 := by omega
                  subst ht2
                  cases hm
                  exact ⟨_, okm_25⟩
            ·
              by_cases h_26_29 : t < 27
              ·
                have ht2 : t = 26 := by omega
                subst ht2
                cases hm
                exact ⟨_, okm_26⟩
              ·
                by_cases h_27_29 : t < 28
                ·
                  have ht2 : t = 27 := by omega
                  subst ht2
                  cases hm
                  exact ⟨_, okm_27⟩
                ·
                  have ht2 : t = 28 := by omega
                  subst ht2
                  cases hm
                  exact ⟨_, okm_28⟩
          ·
            by_cases h_29_35 : t < 32
            ·
              by_cases h_29_32 : t < 30
              ·
                have ht2 : t = 29 := by omega
                subst ht2
                cases hm
                exact ⟨_, okm_29⟩
              ·
                by_cases h_30_32 : t < 31
                ·
                  have ht2 : t = 30 := by omega
                  subst ht2
                  cases hm
                  exact ⟨_, okm_30⟩
                ·
                  have ht2 : t = 31 := by omega
                  subst ht2
                  cases hm
                  exact ⟨_, okm_31⟩
            ·
              by_cases h_32_35 : t < 33
              ·
                have ht2 : t = 32 := by omega
                subst ht2
                cases hm
                exact ⟨_, okm_32⟩
              ·
                by_cases h_33_35 : t < 34
                ·
                  have ht2 : t = 33 := by omega
                  subst ht2
                  cases hm
                  exact ⟨_, okm_33⟩
                ·
                  have ht2 : t = 34 := by omega
                  subst ht2
                  cases hm
                  exact ⟨_, okm_34⟩
        ·
          by_cases h_35_47 : t < 41
          ·
            by_cases h_35_41 : t < 38
            ·
              by_cases h_35_38 : t < 36
              ·
                have ht2 : t = 35 := by omega
                subst ht2
                cases hm
                exact ⟨_, okm_35⟩
              ·
                by_cases h_36_38 : t < 37
                ·
                  have ht2 : t = 36 := by omega
                  subst ht2
                  cases hm
                  exact ⟨_, okm_36⟩
                ·
                  have ht2 : t = 37 := by omega
                  subst ht2
                  cases hm
                  exact ⟨_, okm_37⟩
            ·
              by_cases h_38_41 : t < 39
              ·
                have ht2 : t = 38 := by omega
                subst ht2
                cases hm
                exact ⟨_, okm_38⟩
              ·
                by_cases h_39_41 : t < 40
                ·
                  have ht2 : t = 39 := by omega
                  subst ht2
                  cases hm
                  exact ⟨_, okm_39⟩
                ·
                  have ht2 : t = 40 := by omega
                  subst ht2
                  cases hm
                  exact ⟨_, okm_40⟩
          ·
            by_cases h_41_47 : t < 44
            ·
              by_cases h_41_44 : t < 42
              ·
                have ht2 : t = 41 := by omega
                subst ht2
                cases hm
                exact ⟨_, okm_41⟩
              ·
                by_cases h_42_44 : t < 43
                ·
                  have ht2 : t = 42 := by omega
                  subst ht2
                  cases hm
                  exact ⟨_, okm_42⟩
                ·
                  have ht2 : t = 43 := by omega
                  subst ht2
                  cases hm
                  exact ⟨_, okm_43⟩
            ·
              by_cases h_44_47 : t < 45
              ·
                have ht2 : t = 44 := by omega
                subst ht2
                cases hm
                exact ⟨_, okm_44⟩
              ·
                by_cases h_45_47 : t < 46
                ·
                  have ht2 : t = 45 := by omega
                  subst ht2
                  cases hm
                  exact ⟨_, okm_45⟩
                ·
                  have ht2 : t = 46 := by omega
                  subst ht2
                  cases hm
                  exact ⟨_, okm_46⟩
    ·
      by_cases h_47_95 : t < 71
      ·
        by_cases h_47_71 : t < 59
        ·
          by_cases h_47_59 : t < 53
          ·
            by_cases h_47_53 : t < 50
            ·
              by_cases h_47_50 : t < 48
              ·
                have ht2 : t = 47 := by omega
                subst ht2
                cases hm
                exact ⟨_, okm_47⟩
              ·
                by_cases h_48_50 : t < 49
                ·
                  have ht2 : t = 48 := by omega
                  subst ht2
                  cases hm
                  exact ⟨_, okm_48⟩
                ·
                  have ht2 : t = 49 := by omega
                  subst ht2
                  cases hm
                  exact ⟨_, okm_49⟩
            ·
              by_cases h_50_53 : t < 51
              ·
                have ht2 : t = 50 := by omega
                subst ht2
                cases hm
                exact ⟨_, okm_50⟩
              ·
                by_cases h_51_53 : t < 52
                ·
                  have ht2 : t = 51 := by omega
                  subst ht2
                  cases hm
                  exact ⟨_, okm_51⟩
                ·
                  have ht2 : t = 52 := by omega
                  subst ht2
                  cases hm
                  exact ⟨_, okm_52⟩
          ·
            by_cases h_53_59 : t < 56
            ·
              by_cases h_53_56 : t < 54
              ·
                have ht2 : t = 53 := by omega
                subst ht2
                cases hm
                exact ⟨_, okm_53⟩
              ·
                by_cases h_54_56 : t < 55
                ·
                  have ht2 : t = 54 := by omega
                  subst ht2
                  cases hm
                  exact ⟨_, okm_54⟩
                ·
                  have ht2 : t = 55 := by omega
                  subst ht2
                  cases hm
                  exact ⟨_, okm_55⟩
            ·
              by_cases h_56_59 : t < 57
              ·
                have ht2 : t = 56 := by omega
                subst ht2
                cases hm
                exact ⟨_, okm_56⟩
              ·
                by_cases h_57_59 : t < 58
                ·
                  have ht2 : t = 57 := by omega
                  subst ht2
                  cases hm
                  exact ⟨_, okm_57⟩
                ·
                  have ht2 : t = 58 := by omega
                  subst ht2
                  cases hm
                  exact ⟨_, okm_58⟩
        ·
          by_cases h_59_71 : t < 65
          ·
            by_cases h_59_65 : t < 62
            ·
              by_cases h_59_62 : t < 60
              ·
                have ht2 : t = 59 := by omega
                subst ht2
                cases hm
                exact ⟨_, okm_59⟩
              ·
                by_cases h_60_62 : t < 61
                ·
                  have ht2 : t = 60 := by omega
                  subst ht2
                  cases hm
                  exact ⟨_, okm_60⟩
                ·
                  have ht2 : t = 61 := by omega
                  subst ht2
                  cases hm
                  exact ⟨_, okm_61⟩
            ·
              by_cases h_62_65 : t < 63
              ·
                have ht2 : t = 62 := by omega
                subst ht2
                cases hm
                exact ⟨_, okm_62⟩
              ·
                by_cases h_63_65 : t < 64
                ·
                  have ht2 : t = 63 := by omega
                  subst ht2
                  cases hm
                  exact ⟨_, okm_63⟩
                ·
                  have ht2 : t = 64 := by omega
                  subst ht2
                  cases hm
                  exact ⟨_, okm_64⟩
          ·
            by_cases h_65_71 : t < 68
            ·
              by_cases h_65_68 : t < 66
              ·
                have ht2 : t = 65 := by omega
                subst ht2
                cases hm
                exact ⟨_, okm_65⟩
              ·
                by_cases h_66_68 : t < 67
                ·
                  have ht2 : t = 66 := by omega
                  subst ht2
                  cases hm
                  exact ⟨_, okm_66⟩
                ·
                  have ht2 : t = 67 := by omega
                  subst ht2
                  cases hm
                  exact ⟨_, okm_67⟩
            ·
              by_cases h_68_71 : t < 69
              ·
                have ht2 : t = 68 := by omega
                subst ht2
                cases hm
                exact ⟨_, okm_68⟩
              ·
                by_cases h_69_71 : t < 70
                ·
                  have ht2 : t = 69 := by omega
                  subst ht2
                  cases hm
                  exact ⟨_, okm_69⟩
                ·
                  have ht2 : t = 70 := by omega
                  subst ht2
                  cases hm
                  exact ⟨_, okm_70⟩
      ·
        by_cases h_71_95 : t < 83
        ·
          by_cases h_71_83 : t < 77
          ·
            by_cases h_71_77 : t < 74
            ·
              by_cases h_71_74 : t < 72
              ·
                have ht2 : t = 71 := by omega
                subst ht2
                cases hm
                exact ⟨_, okm_71⟩
              ·
                by_cases h_72_74 : t < 73
                ·
                  have ht2 : t = 72 := by omega
                  subst ht2
                  cases hm
                  exact ⟨_, okm_72⟩
                ·
                  have ht2 : t = 73 := by omega
                  subst ht2
                  cases hm
                  exact ⟨_, okm_73⟩
            ·
              by_cases h_74_77 : t < 75
              ·
                have ht2 : t = 74 := by omega
                subst ht2
                cases hm
                exact ⟨_, okm_74⟩
              ·
                by_cases h_75_77 : t < 76
                ·
                  have ht2 : t = 75 := by omega
                  subst ht2
                  cases hm
                  exact ⟨_, okm_75⟩
                ·
                  have ht2 : t = 76 := by omega
                  subst ht2
                  cases hm
                  exact ⟨_, okm_76⟩
          ·
            by_cases h_77_83 : t < 80
            ·
              by_cases h_77_80 : t < 78
              ·
                have ht2 : t = 77 := by omega
                subst ht2
                cases hm
                exact ⟨_, okm_77⟩
              ·
                by_cases h_78_80 : t < 79
                ·
                  have ht2 : t = 78 := by omega
                  subst ht2
                  cases hm
                  exact ⟨_, okm_78⟩
                ·
                  have ht2 : t = 79 := by omega
                  subst ht2
                  cases hm
                  exact ⟨_, okm_79⟩
            ·
              by_cases h_80_83 : t < 81
              ·
                have ht2 : t = 80 := by omega
                subst ht2
                cases hm
                exact ⟨_, okm_80⟩
              ·
                by_cases h_81_83 : t < 82
                ·
                  have ht2 : t = 81 := by omega
                  subst ht2
                  cases hm
                  exact ⟨_, okm_81⟩
                ·
                  have ht2 : t = 82 := by omega
                  subst ht2
                  cases hm
                  exact ⟨_, okm_82⟩
        ·
          by_cases h_83_95 : t < 89
          ·
            by_cases h_83_89 : t < 86
            ·
              by_cases h_83_86 : t < 84
              ·
                have ht2 : t = 83 := by omega
                subst ht2
                cases hm
                exact ⟨_, okm_83⟩
              ·
                by_cases h_84_86 : t < 85
                ·
                  have ht2 : t = 84 := by omega
                  subst ht2
                  cases hm
                  exact ⟨_, okm_84⟩
                ·
                  have ht2 : t = 85 := by omega
                  subst ht2
                  cases hm
                  exact ⟨_, okm_85⟩
            ·
              by_cases h_86_89 : t < 87
              ·
                have ht2 : t = 86 := by omega
                subst ht2
                cases hm
                exact ⟨_, okm_86⟩
              ·
                by_cases h_87_89 : t < 88
                ·
                  have ht2 : t = 87 := by omega
                  subst ht2
                  cases hm
                  exact ⟨_, okm_87⟩
                ·
                  have ht2 : t = 88 := by omega
                  subst ht2
                  cases hm
                  exact ⟨_, okm_88⟩
          ·
            by_cases h_89_95 : t < 92
            ·
              by_cases h_89_92 : t < 90
              ·
                have ht2 : t = 89 := by omega
                subst ht2
                cases hm
                exact ⟨_, okm_89⟩
              ·
                by_cases h_90_92 : t < 91
                ·
                  have ht2 : t = 90 := by omega
                  subst ht2
                  cases hm
                  exact ⟨_, okm_90⟩
                ·
                  have ht2 : t = 91 := by omega
                  subst ht2
                  cases hm
                  exact ⟨_, okm_91⟩
            ·
              by_cases h_92_95 : t < 93
              ·
                have ht2 : t = 92 := by omega
                subst ht2
                cases hm
                exact ⟨_, okm_92⟩
              ·
                by_cases h_93_95 : t < 94
                ·
                  have ht2 : t = 93 := by omega
                  subst ht2
                  cases hm
                  exact ⟨_, okm_93⟩
                ·
                  have ht2 : t = 94 := by omega
                  subst ht2
                  cases hm
                  exact ⟨_, okm_94⟩
  ·
    by_cases h_95_191 : t < 143
    ·
      by_cases h_95_143 : t < 119
      ·
        by_cases h_95_119 : t < 107
        ·
          by_cases h_95_107 : t < 101
          ·
            by_cases h_95_101 : t < 98
            ·
              by_cases h_95_98 : t < 96
              ·
                have ht2 : t = 95 := by omega
                subst ht2
                cases hm
                exact ⟨_, okm_95⟩
              ·
                by_cases h_96_98 : t < 97
                ·
                  have ht2 : t = 96 := by omega
                  subst ht2
                  cases hm
                  exact ⟨_, okm_96⟩
                ·
                  have ht2 : t = 97 := by omega
                  subst ht2
                  cases hm
                  exact ⟨_, okm_97⟩
            ·
              by_cases h_98_101 : t < 99
              ·
                have ht2 : t = 98 := by omega
                subst ht2
                cases hm
                exact ⟨_, okm_98⟩
              ·
                by_cases h_99_101 : t < 100
                ·
                  have ht2 : t = 99 := by omega
                  subst ht2
                  cases hm
                  exact ⟨_, okm_99⟩
                ·
                  have ht2 : t = 100 := by omega
                  subst ht2
                  cases hm
                  exact ⟨_, okm_100⟩
          ·
            by_cases h_101_107 : t < 104
            ·
              by_cases h_101_104 : t < 102
              ·
                have ht2 : t = 101 := by omega
                subst ht2
                cases hm
                exact ⟨_, okm_101⟩
              ·
                by_cases h_102_104 : t < 103
                ·
                  have ht2 : t = 102 := by omega
                  subst ht2
                  cases hm
                  exact ⟨_, okm_102⟩
                ·
                  have ht2 : t = 103 := by omega
                  subst ht2
                  cases hm
                  exact ⟨_, okm_103⟩
            ·
              by_cases h_104_107 : t < 105
              ·
                have ht2 : t = 104 := by omega
                subst ht2
                cases hm
                exact ⟨_, okm_104⟩
              ·
                by_cases h_105_107 : t < 106
                ·
                  have ht2 : t = 105 := by omega
                  subst ht2
                  cases hm
                  exact ⟨_, okm_105⟩
                ·
                  have ht2 : t = 106 := by omega
                  subst ht2
                  cases hm
                  exact ⟨_, okm_106⟩
        ·
          by_cases h_107_119 : t < 113
          ·
            by_cases h_107_113 : t < 110
            ·
              by_cases h_107_110 : t < 108
              ·
                have ht2 : t = 107 := by omega
                subst ht2
                cases hm
                exact ⟨_, okm_107⟩
              ·
                by_cases h_108_110 : t < 109
                ·
                  have ht2 : t = 108 := by omega
                  subst ht2
                  cases hm
                  exact ⟨_, okm_108⟩
                ·
                  have ht2 : t = 109 := by omega
                  subst ht2
                  cases hm
                  exact ⟨_, okm_109⟩
            ·
              by_cases h_110_113 : t < 111
              ·
                have ht2 : t = 110 := by omega
                subst ht2
                cases hm
                exact ⟨_, okm_110⟩
              ·
                by_cases h_111_113 : t < 112
                ·
                  have ht2 : t = 111 := by omega
                  subst ht2
                  cases hm
                  exact ⟨_, okm_111⟩
                ·
                  have ht2 : t = 112 := by omega
                  subst ht2
                  cases hm
                  exact ⟨_, okm_112⟩
          ·
            by_cases h_113_119 : t < 116
            ·
              by_cases h_113_116 : t < 114
              ·
                have ht2 : t = 113 := by omega
                subst ht2
                cases hm
                exact ⟨_, okm_113⟩
              ·
                by_cases h_114_116 : t < 115
                ·
                  have ht2 : t = 114 := by omega
                  subst ht2
                  cases hm
                  exact ⟨_, okm_114⟩
                ·
                  have ht2 : t = 115 := by omega
                  subst ht2
                  cases hm
                  exact ⟨_, okm_115⟩
            ·
              by_cases h_116_119 : t < 117
              ·
                have ht2 : t = 116 := by omega
                subst ht2
                cases hm
                exact ⟨_, okm_116⟩
              ·
                by_cases h_117_119 : t < 118
                ·
                  have ht2 : t = 117 := by omega
                  subst ht2
                  cases hm
                  exact ⟨_, okm_117⟩
                ·
                  have ht2 : t = 118 := by omega
                  subst ht2
                  cases hm
                  exact ⟨_, okm_118⟩
      ·
        by_cases h_119_143 : t < 131
        ·
          by_cases h_119_131 : t < 125
          ·
            by_cases h_119_125 : t < 122
            ·
              by_cases h_119_122 : t < 120
              ·
                have ht2 : t = 119 := by omega
                subst ht2
                cases hm
                exact ⟨_, okm_119⟩
              ·
                by_cases h_120_122 : t < 121
                ·
                  have ht2 : t = 120 := by omega
                  subst ht2
                  cases hm
                  exact ⟨_, okm_120⟩
                ·
                  have ht2 : t = 121 := by omega
                  subst ht2
                  cases hm
                  exact ⟨_, okm_121⟩
            ·
              by_cases h_122_125 : t < 123
              ·
                have ht2 : t = 122 := by omega
                subst ht2
                cases hm
                exact ⟨_, okm_122⟩
              ·
                by_cases h_123_125 : t < 124
                ·
                  have ht2 : t = 123 := by omega
                  subst ht2
                  cases hm
                  exact ⟨_, okm_123⟩
                ·
                  have ht2 : t = 124 := by omega
                  subst ht2
                  cases hm
                  exact ⟨_, okm_124⟩
          ·
            by_cases h_125_131 : t < 128
            ·
              by_cases h_125_128 : t < 126
              ·
                have ht2 : t = 125 := by omega
                subst ht2
                cases hm
                exact ⟨_, okm_125⟩
              ·
                by_cases h_126_128 : t < 127
                ·
                  have ht2 : t = 126 := by omega
                  subst ht2
                  cases hm
                  exact ⟨_, okm_126⟩
                ·
                  have ht2 : t = 127 := by omega
                  subst ht2
                  cases hm
                  exact ⟨_, okm_127⟩
            ·
              by_cases h_128_131 : t < 129
              ·
                have ht2 : t = 128 := by omega
                subst ht2
                cases hm
                exact ⟨_, okm_128⟩
              ·
                by_cases h_129_131 : t < 130
                ·
                  have ht2 : t = 129 := by omega
                  subst ht2
                  cases hm
                  exact ⟨_, okm_129⟩
                ·
                  have ht2 : t = 130 := by omega
                  subst ht2
                  cases hm
                  exact ⟨_, okm_130⟩
        ·
          by_cases h_131_143 : t < 137
          ·
            by_cases h_131_137 : t < 134
            ·
              by_cases h_131_134 : t < 132
              ·
                have ht2 : t = 131 := by omega
                subst ht2
                cases hm
                exact ⟨_, okm_131⟩
              ·
                by_cases h_132_134 : t < 133
                ·
                  have ht2 : t = 132 := by omega
                  subst ht2
                  cases hm
                  exact ⟨_, okm_132⟩
                ·
                  have ht2 : t = 133 := by omega
                  subst ht2
                  cases hm
                  exact ⟨_, okm_133⟩
            ·
              by_cases h_134_137 : t < 135
              ·
                have ht2 : t = 134 := by omega
                subst ht2
                cases hm
                exact ⟨_, okm_134⟩
              ·
                by_cases h_135_137 : t < 136
                ·
                  have ht2 : t = 135 := by omega
                  subst ht2
                  cases hm
                  exact ⟨_, okm_135⟩
                ·
                  have ht2 : t = 136 := by omega
                  subst ht2
                  cases hm
                  exact ⟨_, okm_136⟩
          ·
            by_cases h_137_143 : t < 140
            ·
              by_cases h_137_140 : t < 138
              ·
                have ht2 : t = 137 := by omega
                subst ht2
                cases hm
                exact ⟨_, okm_137⟩
              ·
                by_cases h_138_140 : t < 139
                ·
                  have ht2 : t = 138 := by omega
                  subst ht2
                  cases hm
                  exact ⟨_, okm_138⟩
                ·
                  have ht2 : t = 139 := by omega
                  subst ht2
                  cases hm
                  exact ⟨_, okm_139⟩
            ·
              by_cases h_140_143 : t < 141
              ·
                have ht2 : t = 140 := by omega
                subst ht2
                cases hm
                exact ⟨_, okm_140⟩
              ·
                by_cases h_141_143 : t < 142
                ·
                  have ht2 : t = 141 := by omega
                  subst ht2
                  cases hm
                  exact ⟨_, okm_141⟩
                ·
                  have ht2 : t = 142 := by omega
                  subst ht2
                  cases hm
                  exact ⟨_, okm_142⟩
    ·
      by_cases h_143_191 : t < 167
      ·
        by_cases h_143_167 : t < 155
        ·
          by_cases h_143_155 : t < 149
          ·
            by_cases h_143_149 : t < 146
            ·
              by_cases h_143_146 : t < 144
              ·
                have ht2 : t = 143 := by omega
                subst ht2
                cases hm
                exact ⟨_, okm_143⟩
              ·
                by_cases h_144_146 : t < 145
                ·
                  have ht2 : t = 144 := by omega
                  subst ht2
                  cases hm
                  exact ⟨_, okm_144⟩
                ·
                  have ht2 : t = 145 := by omega
                  subst ht2
                  cases hm
                  exact ⟨_, okm_145⟩
            ·
              by_cases h_146_149 : t < 147
              ·
                have ht2 : t = 146 := by omega
                subst ht2
                cases hm
                exact ⟨_, okm_146⟩
              ·
                by_cases h_147_149 : t < 148
                ·
                  have ht2 : t = 147 := by omega
                  subst ht2
                  cases hm
                  exact ⟨_, okm_147⟩
                ·
                  have ht2 : t = 148 := by omega
                  subst ht2
                  cases hm
                  exact ⟨_, okm_148⟩
          ·
            by_cases h_149_155 : t < 152
            ·
              by_cases h_149_152 : t < 150
              ·
                have ht2 : t = 149 := by omega
                subst ht2
                cases hm
                exact ⟨_, okm_149⟩
              ·
                by_cases h_150_152 : t < 151
                ·
                  have ht2 : t = 150 := by omega
                  subst ht2
                  cases hm
                  exact ⟨_, okm_150⟩
                ·
                  have ht2 : t = 151 := by omega
                  subst ht2
                  cases hm
                  exact ⟨_, okm_151⟩
            ·
              by_cases h_152_155 : t < 153
              ·
                have ht2 : t = 152 := by omega
                subst ht2
                cases hm
                exact ⟨_, okm_152⟩
              ·
                by_cases h_153_155 : t < 154
                ·
                  have ht2 : t = 153 := by omega
                  subst ht2
                  cases hm
                  exact ⟨_, okm_153⟩
                ·
                  have ht2 : t = 154 := by omega
                  subst ht2
                  cases hm
                  exact ⟨_, okm_154⟩
        ·
          by_cases h_155_167 : t < 161
          ·
            by_cases h_155_161 : t < 158
            ·
              by_cases h_155_158 : t < 156
              ·
                have ht2 : t = 155 := by omega
                subst ht2
                cases hm
                exact ⟨_, okm_155⟩
              ·
                by_cases h_156_158 : t < 157
                ·
                  have ht2 : t = 156 := by omega
                  subst ht2
                  cases hm
                  exact ⟨_, okm_156⟩
                ·
                  have ht2 : t = 157 := by omega
                  subst ht2
                  cases hm
                  exact ⟨_, okm_157⟩
            ·
              by_cases h_158_161 : t < 159
              ·
                have ht2 : t = 158 := by omega
                subst ht2
                cases hm
                exact ⟨_, okm_158⟩
              ·
                by_cases h_159_161 : t < 160
                ·
                  have ht2 : t = 159 := by omega
                  subst ht2
                  cases hm
                  exact ⟨_, okm_159⟩
                ·
                  have ht2 : t = 160 := by omega
                  subst ht2
                  cases hm
                  exact ⟨_, okm_160⟩
          ·
            by_cases h_161_167 : t < 164
            ·
              by_cases h_161_164 : t < 162
              ·
                have ht2 : t = 161 := by omega
                subst ht2
                cases hm
                exact ⟨_, okm_161⟩
              ·
                by_cases h_162_164 : t < 163
                ·
                  have ht2 : t = 162 := by omega
                  subst ht2
                  cases hm
                  exact ⟨_, okm_162⟩
                ·
                  have ht2 : t = 163 := by omega
                  subst ht2
                  cases hm
                  exact ⟨_, okm_163⟩
            ·
              by_cases h_164_167 : t < 165
              ·
                have ht2 : t = 164 := by omega
                subst ht2
                cases hm
                exact ⟨_, okm_164⟩
              ·
                by_cases h_165_167 : t < 166
                ·
                  have ht2 : t = 165 := by omega
                  subst ht2
                  cases hm
                  exact ⟨_, okm_165⟩
                ·
                  have ht2 : t = 166 := by omega
                  subst ht2
                  cases hm
                  exact ⟨_, okm_166⟩
      ·
        by_cases h_167_191 : t < 179
        ·
          by_cases h_167_179 : t < 173
          ·
            by_cases h_167_173 : t < 170
            ·
              by_cases h_167_170 : t < 168
              ·
                have ht2 : t = 167 := by omega
                subst ht2
                cases hm
                exact ⟨_, okm_167⟩
              ·
                by_cases h_168_170 : t < 169
                ·
                  have ht2 : t = 168 := by omega
                  subst ht2
                  cases hm
                  exact ⟨_, okm_168⟩
                ·
                  have ht2 : t = 169 := by omega
                  subst ht2
                  cases hm
                  exact ⟨_, okm_169⟩
            ·
              by_cases h_170_173 : t < 171
              ·
                have ht2 : t = 170 := by omega
                subst ht2
                cases hm
                exact ⟨_, okm_170⟩
              ·
                by_cases h_171_173 : t < 172
                ·
                  have ht2 : t = 171 := by omega
                  subst ht2
                  cases hm
                  exact ⟨_, okm_171⟩
                ·
                  have ht2 : t = 172 := by omega
                  subst ht2
                  cases hm
                  exact ⟨_, okm_172⟩
          ·
            by_cases h_173_179 : t < 176
            ·
              by_cases h_173_176 : t < 174
              ·
                have ht2 : t = 173 := by omega
                subst ht2
                cases hm
                exact ⟨_, okm_173⟩
              ·
                by_cases h_174_176 : t < 175
                ·
                  have ht2 : t = 174 := by omega
                  subst ht2
                  cases hm
                  exact ⟨_, okm_174⟩
                ·
                  have ht2 : t = 175 := by omega
                  subst ht2
                  cases hm
                  exact ⟨_, okm_175⟩
            ·
              by_cases h_176_179 : t < 177
              ·
                have ht2 : t = 176 := by omega
                subst ht2
                cases hm
                exact ⟨_, okm_176⟩
              ·
                by_cases h_177_179 : t < 178
                ·
                  have ht2 : t = 177 := by omega
                  subst ht2
                  cases hm
                  exact ⟨_, okm_177⟩
                ·
                  have ht2 : t = 178 := by omega
                  subst ht2
                  cases hm
                  exact ⟨_, okm_178⟩
        ·
          by_cases h_179_191 : t < 185
          ·
            by_cases h_179_185 : t < 182
            ·
              by_cases h_179_182 : t < 180
              ·
                have ht2 : t = 179 := by omega
                subst ht2
                cases hm
                exact ⟨_, okm_179⟩
              ·
                by_cases h_180_182 : t < 181
                ·
                  have ht2 : t = 180 := by omega
                  subst ht2
                  cases hm
                  exact ⟨_, okm_180⟩
                ·
                  have ht2 : t = 181 := by omega
                  subst ht2
                  cases hm
                  exact ⟨_, okm_181⟩
            ·
              by_cases h_182_185 : t < 183
              ·
                have ht2 : t = 182 := by omega
                subst ht2
                cases hm
                exact ⟨_, okm_182⟩
              ·
                by_cases h_183_185 : t < 184
                ·
                  have ht2 : t = 183 := by omega
                  subst ht2
                  cases hm
                  exact ⟨_, okm_183⟩
                ·
                  have ht2 : t = 184 := by omega
                  subst ht2
                  cases hm
                  exact ⟨_, okm_184⟩
          ·
            by_cases h_185_191 : t < 188
            ·
              by_cases h_185_188 : t < 186
              ·
                have ht2 : t = 185 := by omega
                subst ht2
                cases hm
                exact ⟨_, okm_185⟩
              ·
                by_cases h_186_188 : t < 187
                ·
                  have ht2 : t = 186 := by omega
                  subst ht2
                  cases hm
                  exact ⟨_, okm_186⟩
                ·
                  have ht2 : t = 187 := by omega
                  subst ht2
                  cases hm
                  exact ⟨_, okm_187⟩
            ·
              by_cases h_188_191 : t < 189
              ·
                have ht2 : t = 188 := by omega
                subst ht2
                cases hm
                exact ⟨_, okm_188⟩
              ·
                by_cases h_189_191 : t < 190
                ·
                  have ht2 : t = 189 := by omega
                  subst ht2
                  cases hm
                  exact ⟨_, okm_189⟩
                ·
                  have ht2 : t = 190 := by omega
                  subst ht2
                  cases hm
                  exact ⟨_, okm_190⟩
theorem run_n : ∀ {k d y pc n : Nat} {ls : LL} {st : List Value} {f : FF} {g : GG} {v : Option Value} {n1 : Nat} {f1 : FF} {g1 : GG} {S : Scr}, run KKl MTl MCl S k d y pc ls st n f g = some (v, n1, f1, g1) → n ≤ n1 := by
  intro k
  induction k with
  | zero => intro d y pc n ls st f g v n1 f1 g1 S h; simp [run] at h
  | succ k ih =>
    intro d y pc n ls st f g v n1 f1 g1 S h
    obtain ⟨e, hi, ⟨hk, mt, hm, hr⟩ | ⟨hk, d', mt, as, rest, w, n', f', g', rfl, hm, hc, h1, h2⟩ | ⟨hk, d', a, rest, rfl, rfl, hb, h2⟩ | ⟨h1, h2, h3, pc', n', ls', st', f', g', hs, h4⟩⟩ := run_inv h
    · unfold rets at hr
      repeat' split at hr
      all_goals first | (cases hr; done) | (cases hr; exact Nat.le_refl _)
    · exact Nat.le_trans (ih h1) (ih h2)
    · exact ih h2
    · exact Nat.le_trans (stp_n hs) (ih h4)
theorem callA_inv {e : Ent} {mt : Mth} {st as rest : List Value} {n : Nat} (h : callA KKl e mt st n = some (as, rest)) : st = as.reverse ++ rest ∧ as.length = mt.2.2.2.2.1 ∧ Nat.ble (rest.map Value.category).sum 8 = true ∧ (entL1 as).length ≤ mt.2.2.1 := by
  unfold callA at h
  split at h
  · rename_i hc
    obtain ⟨h1, h2, h3⟩ := hc
    have key : (as, rest) = ((st.take mt.2.2.2.2.1).reverse, st.drop mt.2.2.2.2.1) := by
      split at h
      · split at h
        · exact (Option.some.inj h).symm
        · cases h
      · split at h
        · exact (Option.some.inj h).symm
        · cases h
      · split at h
        · exact (Option.some.inj h).symm
        · cases h
    cases key
    refine ⟨by rw [List.reverse_reverse, List.take_append_drop], by rw [List.length_reverse, List.length_take]; omega, h2, h3⟩
  · cases h
/-- an entry's locals -/
theorem entL1_mem {z : Nat} {T : UInt32 → Value} (hT : TOk T) : ∀ (as : List Value) (pad i off : Nat) (v : Value), lget (entL1 as ++ List.replicate pad none) i = some v → (off + i, tr z T v) ∈ lv_args off (as.map (tr z T)) := by
  intro as
  induction as with
  | nil =>
    intro pad i off v h
    unfold lget at h
    simp only [entL1, List.nil_append, List.getElem?_replicate] at h
    split at h <;> simp at h
  | cons a as ih =>
    intro pad i off v h
    show (off + i, tr z T v) ∈ (off, tr z T a) :: lv_args (if (tr z T a).category = 2 then off + 2 else off + 1) (as.map (tr z T))
    rw [tr_cat hT]
    by_cases hc : a.category = 2
    · rw [if_pos hc]
      have e : entL1 (a :: as) = some a :: none :: entL1 as := by simp [entL1, hc]
      rw [e] at h
      match i, h with
      | 0, h =>
        have : a = v := by simpa [lget] using h
        subst this
        exact List.mem_cons_self
      | 1, h => simp [lget] at h
      | i + 2, h =>
        have h2 : lget (entL1 as ++ List.replicate pad none) i = some v := by simpa [lget] using h
        have := ih pad i (off + 2) v h2
        rw [show off + (i + 2) = off + 2 + i by omega]
        exact List.mem_cons_of_mem _ this
    · rw [if_neg hc]
      have e : entL1 (a :: as) = some a :: entL1 as := by simp [entL1, hc]
      rw [e] at h
      match i, h with
      | 0, h =>
        have : a = v := by simpa [lget] using h
        subst this
        exact List.mem_cons_self
      | i + 1, h =>
        have h2 : lget (entL1 as ++ List.replicate pad none) i = some v := by simpa [lget] using h
        have := ih pad i (off + 1) v h2
        rw [show off + (i + 1) = off + 1 + i by omega]
        exact List.mem_cons_of_mem _ this
theorem entL1_len {z : Nat} {T : UInt32 → Value} (hT : TOk T) : ∀ as : List Value, (lg_sl (as.map (tr z T))).length = (entL1 as).length := by
  intro as
  induction as with
  | nil => rfl
  | cons a as ih =>
    show (lg_sl (tr z T a :: as.map (tr z T))).length = _
    have e : lg_sl (tr z T a :: as.map (tr z T)) = (if (tr z T a).category = 2 then [.val (tr z T a), .second] else [.val (tr z T a)]) ++ lg_sl (as.map (tr z T)) := rfl
    rw [e, tr_cat hT, List.length_append, ih]
    by_cases hc : a.category = 2
    · rw [if_pos hc]; simp [entL1, hc]; omega
    · rw [if_neg hc]; simp [entL1, hc]; omega
theorem LR_entry {z nL : Nat} {T : UInt32 → Value} (hT : TOk T) {as : List Value} (h : (entL1 as).length ≤ nL) : LR z T nL (entL as nL) ((lg_sl (as.map (tr z T)) ++ List.replicate (nL - (lg_sl (as.map (tr z T))).length) Slot.unset).toArray) := by
  have hle : (lg_sl (as.map (tr z T))).length ≤ nL := by rw [entL1_len hT]; exact h
  have he := lv_entry (as.map (tr z T)) hle
  refine ⟨⟨he.1, he.2.1, fun q hq => ?_⟩, by unfold entL; rw [List.length_append, List.length_replicate]; omega⟩
  obtain ⟨v, hv, e⟩ := al_mem.mp hq
  have := entL1_mem (z := z) hT as _ q.1 0 v hv
  rw [Nat.zero_add] at this
  exact he.2.2 q (by rw [show q = (q.1, tr z T v) from by rw [← e]]; exact this)
def rmD (d mc ms : Nat) : Room := { frames := d + 1, cells := mc, slots := ms, locals := 64 * (d + 1) }
def RetAt (mt : Mth) (v : Option Value) (pc : Nat) : Prop :=
  (∃ x ty, v = some (.int x) ∧ mt.2.2.2.1 = some ty ∧ narrow ty (.int x) = .int x ∧ decode mt.2.1 pc = .ok (.ireturn, 1)) ∨
  (∃ x, v = some (.long x) ∧ mt.2.2.2.1 = some .long ∧ decode mt.2.1 pc = .ok (.lreturn, 1)) ∨
  (∃ a s, v = some (.ref a) ∧ mt.2.2.2.1 = some (.object s) ∧ decode mt.2.1 pc = .ok (.areturn, 1)) ∨
  (v = none ∧ mt.2.2.2.1 = none ∧ decode mt.2.1 pc = .ok (.return_, 1))
theorem rets_inv {mt : Mth} {pc : Nat} {e : Ent} {st : List Value} {n n1 : Nat} {f f1 : FF} {g g1 : GG} {v : Option Value} (hk : knd e = 1) (hok : okE mt pc e = true) (h : rets mt.2.2.2.1 e st n f g = some (v, n1, f1, g1)) : RetAt mt v pc ∧ st = v.toList ∧ n1 = n ∧ f1 = f ∧ g1 = g := by
  obtain ⟨i, q, A1, B1, cv⟩ := e
  simp only [okE, Bool.and_eq_true, decide_eq_true_eq] at hok
  obtain ⟨hd, hw⟩ := hok
  cases i <;> (try (simp [knd] at hk; done))
  case ireturn =>
    simp only [okW, decide_eq_true_eq] at hw
    subst hw
    rw [Nat.add_sub_cancel_left] at hd
    unfold rets at h
    simp only at h
    split at h
    · split at h
      · cases h
        exact ⟨Or.inl ⟨_, _, rfl, ‹_›, ‹_›, hd⟩, rfl, rfl, rfl, rfl⟩
      · cases h
    · cases h
  case lreturn =>
    simp only [okW, decide_eq_true_eq] at hw
    subst hw
    rw [Nat.add_sub_cancel_left] at hd
    unfold rets at h
    simp only at h
    split at h
    · cases h
      exact ⟨Or.inr (Or.inl ⟨_, rfl, ‹_›, hd⟩), rfl, rfl, rfl, rfl⟩
    · cases h
  case areturn =>
    simp only [okW, decide_eq_true_eq] at hw
    subst hw
    rw [Nat.add_sub_cancel_left] at hd
    unfold rets at h
    simp only at h
    split at h
    · cases h
      exact ⟨Or.inr (Or.inr (Or.inl ⟨_, _, rfl, ‹_›, hd⟩)), rfl, rfl, rfl, rfl⟩
    · cases h
  case return_ =>
    simp only [okW, decide_eq_true_eq] at hw
    subst hw
    rw [Nat.add_sub_cancel_left] at hd
    unfold rets at h
    simp only at h
    split at h
    · cases h
      exact ⟨Or.inr (Or.inr (Or.inr ⟨rfl, ‹_›, hd⟩)), rfl, rfl, rfl, rfl⟩
    · cases h
  case invokespecial => simp only [knd] at hk; split at hk <;> cases hk
  case invokestatic => simp only [knd] at hk; split at hk <;> cases hk
section RUN
variable {D : va_G} {cI cM cP : ClassId} {z b L sA vA : Nat} {xs : Nat → Int32} {vF : Value}
def PcM (D : va_G) (cI cM cP : ClassId) (z b L : Nat) (xs : Nat → Int32) (sA vA : Nat) (vF : Value) (as : List Value) (n : Nat) (f : FF) (g : GG) : Array Value → State → Prop := fun v U => v = (as.map (tr z (tk b sA vA vF))).toArray ∧ Wd D cI cM cP z n f g U.heap ∧ Env D cI cM cP z b L xs sA vA vF U
def QcM (D : va_G) (cI cM cP : ClassId) (z b : Nat) (sA vA : Nat) (vF : Value) (v : Option Value) (n1 : Nat) (f1 : FF) (g1 : GG) : Array Value → State → Outcome → State → Prop := fun _ st o t => o = .returned (v.map (tr z (tk b sA vA vF))) ∧ Wd D cI cM cP z n1 f1 g1 t.heap ∧ ∀ q : Nat, q < z → t.heap[q]? = st.heap[q]?
theorem PcM_blind {as : List Value} {n : Nat} {f : FF} {g : GG} : FrameBlind (PcM D cI cM cP z b L xs sA vA vF as n f g) := fun a U gg mk q => ⟨q.1, q.2.1, Env.move q.2.2 (U := U.calling gg mk a) (State.WarmedH.refl U) (fun _ _ => rfl) q.2.2.2.2.2.2.2.2.2.2.2.2.1⟩
/-- what a run of k steps gives in a body -/
def SimAt (D : va_G) (cI cM cP : ClassId) (z b L : Nat) (xs : Nat → Int32) (sA vA : Nat) (vF : Value) (l : Launch) (k : Nat) : Prop :=
  ∀ (d y pc : Nat) (ls : LL) (st : List Value) (n : Nat) (f : FF) (g : GG) (v : Option Value) (n1 : Nat) (f1 : FF) (g1 : GG), run KKl MTl MCl (xs, L) k d y pc ls st n f g = some (v, n1, f1, g1) → ∀ mt, MTl[y]? = some mt →
  ∀ (p : Program) (e : Jvm.Env) (R : Room) (s : State) (m : MethodId) (args : Array Value) (below : List Frame) (meth : Method) (c : Code), Cx D cI cM cP z b L xs sA vA vF mt p s m args meth c → d + 1 ≤ R.frames → 64 * (d + 1) ≤ R.locals →
  ∀ (la : Array Slot) (H : Heap) (locs : List Loc) (cells slots : Nat), LR z (tk b sA vA vF) mt.2.2.1 ls la → Wd D cI cM cP z n f g H → va_S (fun q => z ≤ q) s.heap H locs → cells + (n1 - n) ≤ R.cells → slots + (ssz n1 - ssz n) ≤ R.slots →
  ∀ Q : State → Prop, (∀ (pc2 : Nat) (la2 : Array Slot) (H2 : Heap) (locs2 : List Loc), RetAt mt v pc2 → Wd D cI cM cP z n1 f1 g1 H2 → va_S (fun q => z ≤ q) s.heap H2 locs2 → W p l e R s m args below meth c H2 locs2 (cells + (n1 - n)) (slots + (ssz n1 - ssz n)) Q (F0 m pc2 la2 (v.toList.map (tr z (tk b sA vA vF))))) →
  W p l e R s m args below meth c H locs cells slots Q (F0 m pc la (st.map (tr z (tk b sA vA vF))))
set_option maxHeartbeats 2000000 in
/-- a method's contract out of its run -/
theorem met_of {l : Launch} {k d t : Nat} {mt : Mth} {as : List Value} {n n1 : Nat} {f f1 : FF} {g g1 : GG} {v : Option Value} (IH : SimAt D cI cM cP z b L xs sA vA vF l k) (h : run KKl MTl MCl (xs, L) k d t 0 (entL as mt.2.2.1) [] n f g = some (v, n1, f1, g1)) (hm : MTl[t]? = some mt) (hp : plainName mt.1.cls = true) (hlen : (entL1 as).length ≤ mt.2.2.1) :
    Met l mt.1 (Jvm.Cond.code mt.1 mt.2.1 mt.2.2.1 mt.2.2.2.1 :: Big) (rmD d (n1 - n) (ssz n1 - ssz n)) (PcM D cI cM cP z b L xs sA vA vF as n f g) (QcM D cI cM cP z b sA vA vF v n1 f1 g1) (n1 - n) (ssz n1 - ssz n) (fun q => z ≤ q) := by
  refine Met.ofW (cc := mt.2.1) (maxL := mt.2.2.1) (ret := mt.2.2.2.1) hp rfl ?_
  intro p e s m args below meth c s₁ B hml hv
  obtain ⟨rfl, hW, hE⟩ := hv
  have hts0 := atoms_spec (ws := Jvm.Cond.code mt.1 mt.2.1 mt.2.2.1 mt.2.2.2.1 :: Big) B.pre
  have hC : Cx D cI cM cP z b L xs sA vA vF mt p s m (as.map (tr z (tk b sA vA vF))).toArray meth c := ⟨B.exec, B.bytes, hml, B.returns, findClass_of_methodNamed B.named, fun w hw => hts0 w (List.mem_cons_of_mem _ hw), fun _ => (name_of_methodNamed B.named B.method).1, B.notSynchronized, hE⟩
  rw [lg_entry_eq]
  have hlocks := B.notSynchronized
  have hz := hE.2.2.2.2.2.2.2.2.2.2.1
  refine IH d t 0 _ [] n f g v n1 f1 g1 h mt hm p e _ s m _ below meth c hC (Nat.le_refl _) (Nat.le_refl _) _ _ [] 0 0 (LR_entry hE.T hlen) hW va_S.rf (Nat.le_of_eq (Nat.zero_add _)) (Nat.le_of_eq (Nat.zero_add _)) _ ?_
  intro pc2 la2 H2 locs2 hret hW2 hS2
  rw [Nat.zero_add, Nat.zero_add]
  have hQ : ∀ t : State, t.heap = H2 → QcM D cI cM cP z b sA vA vF v n1 f1 g1 (as.map (tr z (tk b sA vA vF))).toArray s (.returned (v.map (tr z (tk b sA vA vF)))) t := fun t ht => ⟨rfl, by rw [ht]; exact hW2, fun q hq => by rw [ht]; exact hS2.2.1 q (Nat.lt_of_lt_of_le hq hz) (Nat.not_le.mpr hq)⟩
  rcases hret with ⟨x, ty, rfl, h2, h3, h4⟩ | ⟨x, rfl, h2, h3⟩ | ⟨a, nm, rfl, h2, h3⟩ | ⟨rfl, h2, h3⟩
  · exact W.zret B.exec B.bytes (B.returns.trans h2) h3 (fun t ht _ => hQ t ht) hS2.2.2 h4
  · exact W.lret B.exec B.bytes (B.returns.trans h2) (fun t ht _ => hQ t ht) hS2.2.2 h3
  · exact W.aret B.exec B.bytes (B.returns.trans h2) (Or.inl ⟨_, rfl⟩) (Or.inr ⟨_, rfl⟩) (fun t ht _ => hQ t ht) hS2.2.2 h3
  · exact W.vret B.exec B.bytes (B.returns.trans h2) (fun t ht _ => hQ t ht) hS2.2.2 h3
/-- behind a call -/
theorem call_go {p : Program} {l : Launch} {e : Jvm.Env} {R : Room} {s : State} {m : MethodId} {args : Array Value} {below : List Frame} {meth : Method} {c : Code} {H : Heap} {locs : List Loc} {cells slots mc ms pc n1 : Nat} {la : Array Slot} {st0 rest : List Value} {a : Array Value} {Q : State → Prop} {v : Option Value} {f1 : FF} {g1 : GG}
    (hr : va_Run p l e R s m args below meth c H locs cells slots mc ms (F0 m pc la st0) rest (QcM D cI cM cP z b sA vA vF v n1 f1 g1 a) (fun q => z ≤ q)) (hS : va_S (fun q => z ≤ q) s.heap H locs) (hz : z ≤ s.heap.size) (hH : H.size ≤ z + n1)
    (kk : ∀ (H1 : Heap) (locs1 : List Loc), Wd D cI cM cP z n1 f1 g1 H1 → va_S (fun q => z ≤ q) s.heap H1 locs1 → W p l e R s m args below meth c H1 locs1 (cells + mc) (slots + ms) Q (F0 m (pc + 3) la ((v.map (tr z (tk b sA vA vF))).toList ++ rest))) : W p l e R s m args below meth c H locs cells slots Q (F0 m pc la st0) := by
  intro T hT X
  obtain ⟨w, st₀, t, T', L2, h0, X', hL, e1, e2, ⟨hv, hW1, hk⟩, st⟩ := hr T hT X
  cases hv
  rw [h0] at hk
  obtain ⟨t2, a1, b1⟩ := kk T'.heap (locs ++ L2) (by rw [e1]; exact hW1) ⟨Nat.le_trans hS.1 (by rw [e1, hW1.1]; exact hH), fun q h1 h2 => by rw [e1, hk q (Nat.not_le.mp h2)]; exact hS.2.1 q h1 h2, fun q hq => by
      rcases List.mem_append.mp hq with h | h
      · exact hS.2.2 q h
      · exact hL q h⟩ T' rfl X'
  exact ⟨t2, st t2 a1, b1⟩
theorem big_code {mt : Mth} (h : Jvm.Cond.code mt.1 mt.2.1 mt.2.2.1 mt.2.2.2.1 ∈ Big) : GoodIn Big (Jvm.Cond.code mt.1 mt.2.1 mt.2.2.1 mt.2.2.2.1 :: Big) := by
  intro w hw
  rcases List.mem_cons.mp hw with rfl | hw
  · exact ⟨h, good_of_word (big_good _ h)⟩
  · exact ⟨hw, good_of_word (big_good _ hw)⟩
end RUN
