theorem mp_d0 : ∀ k, k < 9 → parseFieldDescriptor (mp_F0 k).2.2.1 = some (mp_t0.getD k .byte) := by decide +kernel
theorem mp_n0 : ∀ a, a < 9 → ∀ b, b < 9 → a ≠ b → (mp_F0 a).2.1 ≠ (mp_F0 b).2.1 := by decide +kernel
theorem mp_d1 : ∀ k, k < 1 → parseFieldDescriptor (mp_F1 k).2.2.1 = some (mp_t1.getD k .byte) := by decide +kernel
theorem mp_n1 : ∀ a, a < 1 → ∀ b, b < 1 → a ≠ b → (mp_F1 a).2.1 ≠ (mp_F1 b).2.1 := by decide +kernel
theorem mp_d2 : ∀ k, k < 3 → parseFieldDescriptor (mp_F2 k).2.2.1 = some (mp_t2.getD k .byte) := by decide +kernel
theorem mp_n2 : ∀ a, a < 3 → ∀ b, b < 3 → a ≠ b → (mp_F2 a).2.1 ≠ (mp_F2 b).2.1 := by decide +kernel
theorem mp_d3 : ∀ k, k < 6 → parseFieldDescriptor (mp_F3 k).2.2.1 = some (mp_t3.getD k .byte) := by decide +kernel
theorem mp_n3 : ∀ a, a < 6 → ∀ b, b < 6 → a ≠ b → (mp_F3 a).2.1 ≠ (mp_F3 b).2.1 := by decide +kernel
theorem mp_d4 : ∀ k, k < 11 → parseFieldDescriptor (mp_F4 k).2.2.1 = some (mp_t4.getD k .byte) := by decide +kernel
theorem mp_n4 : ∀ a, a < 11 → ∀ b, b < 11 → a ≠ b → (mp_F4 a).2.1 ≠ (mp_F4 b).2.1 := by decide +kernel
theorem mp_d5 : ∀ k, k < 5 → parseFieldDescriptor (mp_F5 k).2.2.1 = some (mp_t5.getD k .byte) := by decide +kernel
theorem mp_n5 : ∀ a, a < 5 → ∀ b, b < 5 → a ≠ b → (mp_F5 a).2.1 ≠ (mp_F5 b).2.1 := by decide +kernel
theorem mp_d6 : ∀ k, k < 9 → parseFieldDescriptor (mp_F6 k).2.2.1 = some (mp_t6.getD k .byte) := by decide +kernel
theorem mp_n6 : ∀ a, a < 9 → ∀ b, b < 9 → a ≠ b → (mp_F6 a).2.1 ≠ (mp_F6 b).2.1 := by decide +kernel
theorem mp_d7 : ∀ k, k < 4 → parseFieldDescriptor (mp_F7 k).2.2.1 = some (mp_t7.getD k .byte) := by decide +kernel
theorem mp_n7 : ∀ a, a < 4 → ∀ b, b < 4 → a ≠ b → (mp_F7 a).2.1 ≠ (mp_F7 b).2.1 := by decide +kernel
theorem mp_d8 : ∀ k, k < 20 → parseFieldDescriptor (mp_F8 k).2.2.1 = some (mp_t8.getD k .byte) := by decide +kernel
theorem mp_n8 : ∀ a, a < 20 → ∀ b, b < 20 → a ≠ b → (mp_F8 a).2.1 ≠ (mp_F8 b).2.1 := by decide +kernel
theorem mp_d9 : ∀ k, k < 16 → parseFieldDescriptor (mp_F9 k).2.2.1 = some (mp_t9.getD k .byte) := by decide +kernel
theorem mp_n9 : ∀ a, a < 16 → ∀ b, b < 16 → a ≠ b → (mp_F9 a).2.1 ≠ (mp_F9 b).2.1 := by decide +kernel
theorem mp_d10 : ∀ k, k < 73 → parseFieldDescriptor (mp_F10 k).2.2.1 = some (mp_t10.getD k .byte) := by decide +kernel
theorem mp_n10 : ∀ a, a < 73 → ∀ b, b < 73 → a ≠ b → (mp_F10 a).2.1 ≠ (mp_F10 b).2.1 := by decide +kernel
theorem mp_ncodes : mp_codes.length = 330 := by decide +kernel
theorem mp_GG (fx : List Value → mm_H → Option (List Value × mm_H)) : mm_GG mp_cl mp_TB mp_sr (mp_P fx) mp_yy mp_bb := by
  refine ⟨mp_TB_good, fun k hk h0 => ?_⟩
  have hk2 : k < 330 := by
    apply Nat.lt_of_not_le
    intro q
    apply h0
    show (mp_code k).getD 0 .nop = .nop
    unfold mp_code
    have e : mp_codes.getD k [] = [] := by
      rw [List.getD_eq_getElem?_getD, List.getElem?_eq_none (by rw [mp_ncodes]; exact q)]
      rfl
    rw [if_neg (by omega), e]
    rfl
  by_cases h165 : k < 165
  · by_cases h82 : k < 82
    · by_cases h41 : k < 41
      · by_cases h20 : k < 20
        · by_cases h10 : k < 10
          · by_cases h5 : k < 5
            · by_cases h2 : k < 2
              · by_cases h1 : k < 1
                · have hk3 : k = 0 := by omega
                  subst hk3
                  exact gm_0 fx
                · have hk3 : k = 1 := by omega
                  subst hk3
                  exact gm_1 fx
              · by_cases h3 : k < 3
                · have hk3 : k = 2 := by omega
                  subst hk3
                  exact gm_2 fx
                · by_cases h4 : k < 4
                  · have hk3 : k = 3 := by omega
                    subst hk3
                    exact gm_3 fx
                  · have hk3 : k = 4 := by omega
                    subst hk3
                    exact gm_4 fx
            · by_cases h7 : k < 7
              · by_cases h6 : k < 6
                · have hk3 : k = 5 := by omega
                  subst hk3
                  exact gm_5 fx
                · have hk3 : k = 6 := by omega
                  subst hk3
                  exact gm_6 fx
              · by_cases h8 : k < 8
                · have hk3 : k = 7 := by omega
                  subst hk3
                  exact gm_7 fx
                · by_cases h9 : k < 9
                  · have hk3 : k = 8 := by omega
                    subst hk3
                    exact gm_8 fx
                  · have hk3 : k = 9 := by omega
                    subst hk3
                    exact gm_9 fx
          · by_cases h15 : k < 15
            · by_cases h12 : k < 12
              · by_cases h11 : k < 11
                · have hk3 : k = 10 := by omega
                  subst hk3
                  exact gm_10 fx
                · have hk3 : k = 11 := by omega
                  subst hk3
                  exact gm_11 fx
              · by_cases h13 : k < 13
                · have hk3 : k = 12 := by omega
                  subst hk3
                  exact gm_12 fx
                · by_cases h14 : k < 14
                  · have hk3 : k = 13 := by omega
                    subst hk3
                    exact gm_13 fx
                  · have hk3 : k = 14 := by omega
                    subst hk3
                    exact gm_14 fx
            · by_cases h17 : k < 17
              · by_cases h16 : k < 16
                · have hk3 : k = 15 := by omega
                  subst hk3
                  exact gm_15 fx
                · have hk3 : k = 16 := by omega
                  subst hk3
                  exact gm_16 fx
              · by_cases h18 : k < 18
                · have hk3 : k = 17 := by omega
                  subst hk3
                  exact gm_17 fx
                · by_cases h19 : k < 19
                  · have hk3 : k = 18 := by omega
                    subst hk3
                    exact gm_18 fx
                  · have hk3 : k = 19 := by omega
                    subst hk3
                    exact gm_19 fx
        · by_cases h30 : k < 30
          · by_cases h25 : k < 25
            · by_cases h22 : k < 22
              · by_cases h21 : k < 21
                · have hk3 : k = 20 := by omega
                  subst hk3
                  exact gm_20 fx
                · have hk3 : k = 21 := by omega
                  subst hk3
                  exact gm_21 fx
              · by_cases h23 : k < 23
                · have hk3 : k = 22 := by omega
                  subst hk3
                  exact gm_22 fx
                · by_cases h24 : k < 24
                  · have hk3 : k = 23 := by omega
                    subst hk3
                    exact gm_23 fx
                  · have hk3 : k = 24 := by omega
                    subst hk3
                    exact gm_24 fx
            · by_cases h27 : k < 27
              · by_cases h26 : k < 26
                · have hk3 : k = 25 := by omega
                  subst hk3
                  exact gm_25 fx
                · have hk3 : k = 26 := by omega
                  subst hk3
                  exact gm_26 fx
              · by_cases h28 : k < 28
                · have hk3 : k = 27 := by omega
                  subst hk3
                  exact gm_27 fx
                · by_cases h29 : k < 29
                  · have hk3 : k = 28 := by omega
                    subst hk3
                    exact gm_28 fx
                  · have hk3 : k = 29 := by omega
                    subst hk3
                    exact gm_29 fx
          · by_cases h35 : k < 35
            · by_cases h32 : k < 32
              · by_cases h31 : k < 31
                · have hk3 : k = 30 := by omega
                  subst hk3
                  exact gm_30 fx
                · have hk3 : k = 31 := by omega
                  subst hk3
                  exact gm_31 fx
              · by_cases h33 : k < 33
                · have hk3 : k = 32 := by omega
                  subst hk3
                  exact gm_32 fx
                · by_cases h34 : k < 34
                  · have hk3 : k = 33 := by omega
                    subst hk3
                    exact gm_33 fx
                  · have hk3 : k = 34 := by omega
                    subst hk3
                    exact gm_34 fx
            · by_cases h38 : k < 38
              · by_cases h36 : k < 36
                · have hk3 : k = 35 := by omega
                  subst hk3
                  exact gm_35 fx
                · by_cases h37 : k < 37
                  · have hk3 : k = 36 := by omega
                    subst hk3
                    exact gm_36 fx
                  · have hk3 : k = 37 := by omega
                    subst hk3
                    exact gm_37 fx
              · by_cases h39 : k < 39
                · have hk3 : k = 38 := by omega
                  subst hk3
                  exact gm_38 fx
                · by_cases h40 : k < 40
                  · have hk3 : k = 39 := by omega
                    subst hk3
                    exact gm_39 fx
                  · have hk3 : k = 40 := by omega
                    subst hk3
                    exact gm_40 fx
      · by_cases h61 : k < 61
        · by_cases h51 : k < 51
          · by_cases h46 : k < 46
            · by_cases h43 : k < 43
              · by_cases h42 : k < 42
                · have hk3 : k = 41 := by omega
                  subst hk3
                  exact gm_41 fx
                · have hk3 : k = 42 := by omega
                  subst hk3
                  exact gm_42 fx
              · by_cases h44 : k < 44
                · have hk3 : k = 43 := by omega
                  subst hk3
                  exact gm_43 fx
                · by_cases h45 : k < 45
                  · have hk3 : k = 44 := by omega
                    subst hk3
                    exact gm_44 fx
                  · have hk3 : k = 45 := by omega
                    subst hk3
                    exact gm_45 fx
            · by_cases h48 : k < 48
              · by_cases h47 : k < 47
                · have hk3 : k = 46 := by omega
                  subst hk3
                  exact gm_46 fx
                · have hk3 : k = 47 := by omega
                  subst hk3
                  exact gm_47 fx
              · by_cases h49 : k < 49
                · have hk3 : k = 48 := by omega
                  subst hk3
                  exact gm_48 fx
                · by_cases h50 : k < 50
                  · have hk3 : k = 49 := by omega
                    subst hk3
                    exact gm_49 fx
                  · have hk3 : k = 50 := by omega
                    subst hk3
                    exact gm_50 fx
          · by_cases h56 : k < 56
            · by_cases h53 : k < 53
              · by_cases h52 : k < 52
                · have hk3 : k = 51 := by omega
                  subst hk3
                  exact gm_51 fx
                · have hk3 : k = 52 := by omega
                  subst hk3
                  exact gm_52 fx
              · by_cases h54 : k < 54
                · have hk3 : k = 53 := by omega
                  subst hk3
                  exact gm_53 fx
                · by_cases h55 : k < 55
                  · have hk3 : k = 54 := by omega
                    subst hk3
                    exact gm_54 fx
                  · have hk3 : k = 55 := by omega
                    subst hk3
                    exact gm_55 fx
            · by_cases h58 : k < 58
              · by_cases h57 : k < 57
                · have hk3 : k = 56 := by omega
                  subst hk3
                  exact gm_56 fx
                · have hk3 : k = 57 := by omega
                  subst hk3
                  exact gm_57 fx
              · by_cases h59 : k < 59
                · have hk3 : k = 58 := by omega
                  subst hk3
                  exact gm_58 fx
                · by_cases h60 : k < 60
                  · have hk3 : k = 59 := by omega
                    subst hk3
                    exact gm_59 fx
                  · have hk3 : k = 60 := by omega
                    subst hk3
                    exact gm_60 fx
        · by_cases h71 : k < 71
          · by_cases h66 : k < 66
            · by_cases h63 : k < 63
              · by_cases h62 : k < 62
                · have hk3 : k = 61 := by omega
                  subst hk3
                  exact gm_61 fx
                · have hk3 : k = 62 := by omega
                  subst hk3
                  exact gm_62 fx
              · by_cases h64 : k < 64
                · have hk3 : k = 63 := by omega
                  subst hk3
                  exact gm_63 fx
                · by_cases h65 : k < 65
                  · have hk3 : k = 64 := by omega
                    subst hk3
                    exact gm_64 fx
                  · have hk3 : k = 65 := by omega
                    subst hk3
                    exact gm_65 fx
            · by_cases h68 : k < 68
              · by_cases h67 : k < 67
                · have hk3 : k = 66 := by omega
                  subst hk3
                  exact gm_66 fx
                · have hk3 : k = 67 := by omega
                  subst hk3
                  exact gm_67 fx
              · by_cases h69 : k < 69
                · have hk3 : k = 68 := by omega
                  subst hk3
                  exact gm_68 fx
                · by_cases h70 : k < 70
                  · have hk3 : k = 69 := by omega
                    subst hk3
                    exact gm_69 fx
                  · have hk3 : k = 70 := by omega
                    subst hk3
                    exact gm_70 fx
          · by_cases h76 : k < 76
            · by_cases h73 : k < 73
              · by_cases h72 : k < 72
                · have hk3 : k = 71 := by omega
                  subst hk3
                  exact gm_71 fx
                · have hk3 : k = 72 := by omega
                  subst hk3
                  exact gm_72 fx
              · by_cases h74 : k < 74
                · have hk3 : k = 73 := by omega
                  subst hk3
                  exact gm_73 fx
                · by_cases h75 : k < 75
                  · have hk3 : k = 74 := by omega
                    subst hk3
                    exact gm_74 fx
                  · have hk3 : k = 75 := by omega
                    subst hk3
                    exact gm_75 fx
            · by_cases h79 : k < 79
              · by_cases h77 : k < 77
                · have hk3 : k = 76 := by omega
                  subst hk3
                  exact gm_76 fx
                · by_cases h78 : k < 78
                  · have hk3 : k = 77 := by omega
                    subst hk3
                    exact gm_77 fx
                  · have hk3 : k = 78 := by omega
                    subst hk3
                    exact gm_78 fx
              · by_cases h80 : k < 80
                · have hk3 : k = 79 := by omega
                  subst hk3
                  exact gm_79 fx
                · by_cases h81 : k < 81
                  · have hk3 : k = 80 := by omega
                    subst hk3
                    exact gm_80 fx
                  · have hk3 : k = 81 := by omega
                    subst hk3
                    exact gm_81 fx
    · by_cases h123 : k < 123
      · by_cases h102 : k < 102
        · by_cases h92 : k < 92
          · by_cases h87 : k < 87
            · by_cases h84 : k < 84
              · by_cases h83 : k < 83
                · have hk3 : k = 82 := by omega
                  subst hk3
                  exact gm_82 fx
                · have hk3 : k = 83 := by omega
                  subst hk3
                  exact gm_83 fx
              · by_cases h85 : k < 85
                · have hk3 : k = 84 := by omega
                  subst hk3
                  exact gm_84 fx
                · by_cases h86 : k < 86
                  · have hk3 : k = 85 := by omega
                    subst hk3
                    exact gm_85 fx
                  · have hk3 : k = 86 := by omega
                    subst hk3
                    exact gm_86 fx
            · by_cases h89 : k < 89
              · by_cases h88 : k < 88
                · have hk3 : k = 87 := by omega
                  subst hk3
                  exact gm_87 fx
                · have hk3 : k = 88 := by omega
                  subst hk3
                  exact gm_88 fx
              · by_cases h90 : k < 90
                · have hk3 : k = 89 := by omega
                  subst hk3
                  exact gm_89 fx
                · by_cases h91 : k < 91
                  · have hk3 : k = 90 := by omega
                    subst hk3
                    exact gm_90 fx
                  · have hk3 : k = 91 := by omega
                    subst hk3
                    exact gm_91 fx
          · by_cases h97 : k < 97
            · by_cases h94 : k < 94
              · by_cases h93 : k < 93
                · have hk3 : k = 92 := by omega
                  subst hk3
                  exact gm_92 fx
                · have hk3 : k = 93 := by omega
                  subst hk3
                  exact gm_93 fx
              · by_cases h95 : k < 95
                · have hk3 : k = 94 := by omega
                  subst hk3
                  exact gm_94 fx
                · by_cases h96 : k < 96
                  · have hk3 : k = 95 := by omega
                    subst hk3
                    exact gm_95 fx
                  · have hk3 : k = 96 := by omega
                    subst hk3
                    exact gm_96 fx
            · by_cases h99 : k < 99
              · by_cases h98 : k < 98
                · have hk3 : k = 97 := by omega
                  subst hk3
                  exact gm_97 fx
                · have hk3 : k = 98 := by omega
                  subst hk3
                  exact gm_98 fx
              · by_cases h100 : k < 100
                · have hk3 : k = 99 := by omega
                  subst hk3
                  exact gm_99 fx
                · by_cases h101 : k < 101
                  · have hk3 : k = 100 := by omega
                    subst hk3
                    exact gm_100 fx
                  · have hk3 : k = 101 := by omega
                    subst hk3
                    exact gm_101 fx
        · by_cases h112 : k < 112
          · by_cases h107 : k < 107
            · by_cases h104 : k < 104
              · by_cases h103 : k < 103
                · have hk3 : k = 102 := by omega
                  subst hk3
                  exact gm_102 fx
                · have hk3 : k = 103 := by omega
                  subst hk3
                  exact gm_103 fx
              · by_cases h105 : k < 105
                · have hk3 : k = 104 := by omega
                  subst hk3
                  exact gm_104 fx
                · by_cases h106 : k < 106
                  · have hk3 : k = 105 := by omega
                    subst hk3
                    exact gm_105 fx
                  · have hk3 : k = 106 := by omega
                    subst hk3
                    exact gm_106 fx
            · by_cases h109 : k < 109
              · by_cases h108 : k < 108
                · have hk3 : k = 107 := by omega
                  subst hk3
                  exact gm_107 fx
                · have hk3 : k = 108 := by omega
                  subst hk3
                  exact gm_108 fx
              · by_cases h110 : k < 110
                · have hk3 : k = 109 := by omega
                  subst hk3
                  exact gm_109 fx
                · by_cases h111 : k < 111
                  · have hk3 : k = 110 := by omega
                    subst hk3
                    exact gm_110 fx
                  · have hk3 : k = 111 := by omega
                    subst hk3
                    exact gm_111 fx
          · by_cases h117 : k < 117
            · by_cases h114 : k < 114
              · by_cases h113 : k < 113
                · have hk3 : k = 112 := by omega
                  subst hk3
                  exact gm_112 fx
                · have hk3 : k = 113 := by omega
                  subst hk3
                  exact gm_113 fx
              · by_cases h115 : k < 115
                · have hk3 : k = 114 := by omega
                  subst hk3
                  exact gm_114 fx
                · by_cases h116 : k < 116
                  · have hk3 : k = 115 := by omega
                    subst hk3
                    exact gm_115 fx
                  · have hk3 : k = 116 := by omega
                    subst hk3
                    exact gm_116 fx
            · by_cases h120 : k < 120
              · by_cases h118 : k < 118
                · have hk3 : k = 117 := by omega
                  subst hk3
                  exact gm_117 fx
                · by_cases h119 : k < 119
                  · have hk3 : k = 118 := by omega
                    subst hk3
                    exact gm_118 fx
                  · have hk3 : k = 119 := by omega
                    subst hk3
                    exact gm_119 fx
              · by_cases h121 : k < 121
                · have hk3 : k = 120 := by omega
                  subst hk3
                  exact gm_120 fx
                · by_cases h122 : k < 122
                  · have hk3 : k = 121 := by omega
                    subst hk3
                    exact gm_121 fx
                  · have hk3 : k = 122 := by omega
                    subst hk3
                    exact gm_122 fx
      · by_cases h144 : k < 144
        · by_cases h133 : k < 133
          · by_cases h128 : k < 128
            · by_cases h125 : k < 125
              · by_cases h124 : k < 124
                · have hk3 : k = 123 := by omega
                  subst hk3
                  exact gm_123 fx
                · have hk3 : k = 124 := by omega
                  subst hk3
                  exact gm_124 fx
              · by_cases h126 : k < 126
                · have hk3 : k = 125 := by omega
                  subst hk3
                  exact gm_125 fx
                · by_cases h127 : k < 127
                  · have hk3 : k = 126 := by omega
                    subst hk3
                    exact gm_126 fx
                  · have hk3 : k = 127 := by omega
                    subst hk3
                    exact gm_127 fx
            · by_cases h130 : k < 130
              · by_cases h129 : k < 129
                · have hk3 : k = 128 := by omega
                  subst hk3
                  exact gm_128 fx
                · have hk3 : k = 129 := by omega
                  subst hk3
                  exact gm_129 fx
              · by_cases h131 : k < 131
                · have hk3 : k = 130 := by omega
                  subst hk3
                  exact gm_130 fx
                · by_cases h132 : k < 132
                  · have hk3 : k = 131 := by omega
                    subst hk3
                    exact gm_131 fx
                  · have hk3 : k = 132 := by omega
                    subst hk3
                    exact gm_132 fx
          · by_cases h138 : k < 138
            · by_cases h135 : k < 135
              · by_cases h134 : k < 134
                · have hk3 : k = 133 := by omega
                  subst hk3
                  exact gm_133 fx
                · have hk3 : k = 134 := by omega
                  subst hk3
                  exact gm_134 fx
              · by_cases h136 : k < 136
                · have hk3 : k = 135 := by omega
                  subst hk3
                  exact gm_135 fx
                · by_cases h137 : k < 137
                  · have hk3 : k = 136 := by omega
                    subst hk3
                    exact gm_136 fx
                  · have hk3 : k = 137 := by omega
                    subst hk3
                    exact gm_137 fx
            · by_cases h141 : k < 141
              · by_cases h139 : k < 139
                · have hk3 : k = 138 := by omega
                  subst hk3
                  exact gm_138 fx
                · by_cases h140 : k < 140
                  · have hk3 : k = 139 := by omega
                    subst hk3
                    exact gm_139 fx
                  · have hk3 : k = 140 := by omega
                    subst hk3
                    exact gm_140 fx
              · by_cases h142 : k < 142
                · have hk3 : k = 141 := by omega
                  subst hk3
                  exact gm_141 fx
                · by_cases h143 : k < 143
                  · have hk3 : k = 142 := by omega
                    subst hk3
                    exact gm_142 fx
                  · have hk3 : k = 143 := by omega
                    subst hk3
                    exact gm_143 fx
        · by_cases h154 : k < 154
          · by_cases h149 : k < 149
            · by_cases h146 : k < 146
              · by_cases h145 : k < 145
                · have hk3 : k = 144 := by omega
                  subst hk3
                  exact gm_144 fx
                · have hk3 : k = 145 := by omega
                  subst hk3
                  exact gm_145 fx
              · by_cases h147 : k < 147
                · have hk3 : k = 146 := by omega
                  subst hk3
                  exact gm_146 fx
                · by_cases h148 : k < 148
                  · have hk3 : k = 147 := by omega
                    subst hk3
                    exact gm_147 fx
                  · have hk3 : k = 148 := by omega
                    subst hk3
                    exact gm_148 fx
            · by_cases h151 : k < 151
              · by_cases h150 : k < 150
                · have hk3 : k = 149 := by omega
                  subst hk3
                  exact gm_149 fx
                · have hk3 : k = 150 := by omega
                  subst hk3
                  exact gm_150 fx
              · by_cases h152 : k < 152
                · have hk3 : k = 151 := by omega
                  subst hk3
                  exact gm_151 fx
                · by_cases h153 : k < 153
                  · have hk3 : k = 152 := by omega
                    subst hk3
                    exact gm_152 fx
                  · have hk3 : k = 153 := by omega
                    subst hk3
                    exact gm_153 fx
          · by_cases h159 : k < 159
            · by_cases h156 : k < 156
              · by_cases h155 : k < 155
                · have hk3 : k = 154 := by omega
                  subst hk3
                  exact gm_154 fx
                · have hk3 : k = 155 := by omega
                  subst hk3
                  exact gm_155 fx
              · by_cases h157 : k < 157
                · have hk3 : k = 156 := by omega
                  subst hk3
                  exact gm_156 fx
                · by_cases h158 : k < 158
                  · have hk3 : k = 157 := by omega
                    subst hk3
                    exact gm_157 fx
                  · have hk3 : k = 158 := by omega
                    subst hk3
                    exact gm_158 fx
            · by_cases h162 : k < 162
              · by_cases h160 : k < 160
                · have hk3 : k = 159 := by omega
                  subst hk3
                  exact gm_159 fx
                · by_cases h161 : k < 161
                  · have hk3 : k = 160 := by omega
                    subst hk3
                    exact gm_160 fx
                  · have hk3 : k = 161 := by omega
                    subst hk3
                    exact gm_161 fx
              · by_cases h163 : k < 163
                · have hk3 : k = 162 := by omega
                  subst hk3
                  exact gm_162 fx
                · by_cases h164 : k < 164
                  · have hk3 : k = 163 := by omega
                    subst hk3
                    exact gm_163 fx
                  · have hk3 : k = 164 := by omega
                    subst hk3
                    exact gm_164 fx
  · by_cases h247 : k < 247
    · by_cases h206 : k < 206
      · by_cases h185 : k < 185
        · by_cases h175 : k < 175
          · by_cases h170 : k < 170
            · by_cases h167 : k < 167
              · by_cases h166 : k < 166
                · have hk3 : k = 165 := by omega
                  subst hk3
                  exact gm_165 fx
                · have hk3 : k = 166 := by omega
                  subst hk3
                  exact gm_166 fx
              · by_cases h168 : k < 168
                · have hk3 : k = 167 := by omega
                  subst hk3
                  exact gm_167 fx
                · by_cases h169 : k < 169
                  · have hk3 : k = 168 := by omega
                    subst hk3
                    exact gm_168 fx
                  · have hk3 : k = 169 := by omega
                    subst hk3
                    exact gm_169 fx
            · by_cases h172 : k < 172
              · by_cases h171 : k < 171
                · have hk3 : k = 170 := by omega
                  subst hk3
                  exact gm_170 fx
                · have hk3 : k = 171 := by omega
                  subst hk3
                  exact gm_171 fx
              · by_cases h173 : k < 173
                · have hk3 : k = 172 := by omega
                  subst hk3
                  exact gm_172 fx
                · by_cases h174 : k < 174
                  · have hk3 : k = 173 := by omega
                    subst hk3
                    exact gm_173 fx
                  · have hk3 : k = 174 := by omega
                    subst hk3
                    exact gm_174 fx
          · by_cases h180 : k < 180
            · by_cases h177 : k < 177
              · by_cases h176 : k < 176
                · have hk3 : k = 175 := by omega
                  subst hk3
                  exact gm_175 fx
                · have hk3 : k = 176 := by omega
                  subst hk3
                  exact gm_176 fx
              · by_cases h178 : k < 178
                · have hk3 : k = 177 := by omega
                  subst hk3
                  exact gm_177 fx
                · by_cases h179 : k < 179
                  · have hk3 : k = 178 := by omega
                    subst hk3
                    exact gm_178 fx
                  · have hk3 : k = 179 := by omega
                    subst hk3
                    exact gm_179 fx
            · by_cases h182 : k < 182
              · by_cases h181 : k < 181
                · have hk3 : k = 180 := by omega
                  subst hk3
                  exact gm_180 fx
                · have hk3 : k = 181 := by omega
                  subst hk3
                  exact gm_181 fx
              · by_cases h183 : k < 183
                · have hk3 : k = 182 := by omega
                  subst hk3
                  exact gm_182 fx
                · by_cases h184 : k < 184
                  · have hk3 : k = 183 := by omega
                    subst hk3
                    exact gm_183 fx
                  · have hk3 : k = 184 := by omega
                    subst hk3
                    exact gm_184 fx
        · by_cases h195 : k < 195
          · by_cases h190 : k < 190
            · by_cases h187 : k < 187
              · by_cases h186 : k < 186
                · have hk3 : k = 185 := by omega
                  subst hk3
                  exact gm_185 fx
                · have hk3 : k = 186 := by omega
                  subst hk3
                  exact gm_186 fx
              · by_cases h188 : k < 188
                · have hk3 : k = 187 := by omega
                  subst hk3
                  exact gm_187 fx
                · by_cases h189 : k < 189
                  · have hk3 : k = 188 := by omega
                    subst hk3
                    exact gm_188 fx
                  · have hk3 : k = 189 := by omega
                    subst hk3
                    exact gm_189 fx
            · by_cases h192 : k < 192
              · by_cases h191 : k < 191
                · have hk3 : k = 190 := by omega
                  subst hk3
                  exact gm_190 fx
                · have hk3 : k = 191 := by omega
                  subst hk3
                  exact gm_191 fx
              · by_cases h193 : k < 193
                · have hk3 : k = 192 := by omega
                  subst hk3
                  exact gm_192 fx
                · by_cases h194 : k < 194
                  · have hk3 : k = 193 := by omega
                    subst hk3
                    exact gm_193 fx
                  · have hk3 : k = 194 := by omega
                    subst hk3
                    exact gm_194 fx
          · by_cases h200 : k < 200
            · by_cases h197 : k < 197
              · by_cases h196 : k < 196
                · have hk3 : k = 195 := by omega
                  subst hk3
                  exact gm_195 fx
                · have hk3 : k = 196 := by omega
                  subst hk3
                  exact gm_196 fx
              · by_cases h198 : k < 198
                · have hk3 : k = 197 := by omega
                  subst hk3
                  exact gm_197 fx
                · by_cases h199 : k < 199
                  · have hk3 : k = 198 := by omega
                    subst hk3
                    exact gm_198 fx
                  · have hk3 : k = 199 := by omega
                    subst hk3
                    exact gm_199 fx
            · by_cases h203 : k < 203
              · by_cases h201 : k < 201
                · have hk3 : k = 200 := by omega
                  subst hk3
                  exact gm_200 fx
                · by_cases h202 : k < 202
                  · have hk3 : k = 201 := by omega
                    subst hk3
                    exact gm_201 fx
                  · have hk3 : k = 202 := by omega
                    subst hk3
                    exact gm_202 fx
              · by_cases h204 : k < 204
                · have hk3 : k = 203 := by omega
                  subst hk3
                  exact gm_203 fx
                · by_cases h205 : k < 205
                  · have hk3 : k = 204 := by omega
                    subst hk3
                    exact gm_204 fx
                  · have hk3 : k = 205 := by omega
                    subst hk3
                    exact gm_205 fx
      · by_cases h226 : k < 226
        · by_cases h216 : k < 216
          · by_cases h211 : k < 211
            · by_cases h208 : k < 208
              · by_cases h207 : k < 207
                · have hk3 : k = 206 := by omega
                  subst hk3
                  exact gm_206 fx
                · have hk3 : k = 207 := by omega
                  subst hk3
                  exact gm_207 fx
              · by_cases h209 : k < 209
                · have hk3 : k = 208 := by omega
                  subst hk3
                  exact gm_208 fx
                · by_cases h210 : k < 210
                  · have hk3 : k = 209 := by omega
                    subst hk3
                    exact gm_209 fx
                  · have hk3 : k = 210 := by omega
                    subst hk3
                    exact gm_210 fx
            · by_cases h213 : k < 213
              · by_cases h212 : k < 212
                · have hk3 : k = 211 := by omega
                  subst hk3
                  exact gm_211 fx
                · have hk3 : k = 212 := by omega
                  subst hk3
                  exact gm_212 fx
              · by_cases h214 : k < 214
                · have hk3 : k = 213 := by omega
                  subst hk3
                  exact gm_213 fx
                · by_cases h215 : k < 215
                  · have hk3 : k = 214 := by omega
                    subst hk3
                    exact gm_214 fx
                  · have hk3 : k = 215 := by omega
                    subst hk3
                    exact gm_215 fx
          · by_cases h221 : k < 221
            · by_cases h218 : k < 218
              · by_cases h217 : k < 217
                · have hk3 : k = 216 := by omega
                  subst hk3
                  exact gm_216 fx
                · have hk3 : k = 217 := by omega
                  subst hk3
                  exact gm_217 fx
              · by_cases h219 : k < 219
                · have hk3 : k = 218 := by omega
                  subst hk3
                  exact gm_218 fx
                · by_cases h220 : k < 220
                  · have hk3 : k = 219 := by omega
                    subst hk3
                    exact gm_219 fx
                  · have hk3 : k = 220 := by omega
                    subst hk3
                    exact gm_220 fx
            · by_cases h223 : k < 223
              · by_cases h222 : k < 222
                · have hk3 : k = 221 := by omega
                  subst hk3
                  exact gm_221 fx
                · have hk3 : k = 222 := by omega
                  subst hk3
                  exact gm_222 fx
              · by_cases h224 : k < 224
                · have hk3 : k = 223 := by omega
                  subst hk3
                  exact gm_223 fx
                · by_cases h225 : k < 225
                  · have hk3 : k = 224 := by omega
                    subst hk3
                    exact gm_224 fx
                  · have hk3 : k = 225 := by omega
                    subst hk3
                    exact gm_225 fx
        · by_cases h236 : k < 236
          · by_cases h231 : k < 231
            · by_cases h228 : k < 228
              · by_cases h227 : k < 227
                · have hk3 : k = 226 := by omega
                  subst hk3
                  exact gm_226 fx
                · have hk3 : k = 227 := by omega
                  subst hk3
                  exact gm_227 fx
              · by_cases h229 : k < 229
                · have hk3 : k = 228 := by omega
                  subst hk3
                  exact gm_228 fx
                · by_cases h230 : k < 230
                  · have hk3 : k = 229 := by omega
                    subst hk3
                    exact gm_229 fx
                  · have hk3 : k = 230 := by omega
                    subst hk3
                    exact gm_230 fx
            · by_cases h233 : k < 233
              · by_cases h232 : k < 232
                · have hk3 : k = 231 := by omega
                  subst hk3
                  exact gm_231 fx
                · have hk3 : k = 232 := by omega
                  subst hk3
                  exact gm_232 fx
              · by_cases h234 : k < 234
                · have hk3 : k = 233 := by omega
                  subst hk3
                  exact gm_233 fx
                · by_cases h235 : k < 235
                  · have hk3 : k = 234 := by omega
                    subst hk3
                    exact gm_234 fx
                  · have hk3 : k = 235 := by omega
                    subst hk3
                    exact gm_235 fx
          · by_cases h241 : k < 241
            · by_cases h238 : k < 238
              · by_cases h237 : k < 237
                · have hk3 : k = 236 := by omega
                  subst hk3
                  exact gm_236 fx
                · have hk3 : k = 237 := by omega
                  subst hk3
                  exact gm_237 fx
              · by_cases h239 : k < 239
                · have hk3 : k = 238 := by omega
                  subst hk3
                  exact gm_238 fx
                · by_cases h240 : k < 240
                  · have hk3 : k = 239 := by omega
                    subst hk3
                    exact gm_239 fx
                  · have hk3 : k = 240 := by omega
                    subst hk3
                    exact gm_240 fx
            · by_cases h244 : k < 244
              · by_cases h242 : k < 242
                · have hk3 : k = 241 := by omega
                  subst hk3
                  exact gm_241 fx
                · by_cases h243 : k < 243
                  · have hk3 : k = 242 := by omega
                    subst hk3
                    exact gm_242 fx
                  · have hk3 : k = 243 := by omega
                    subst hk3
                    exact gm_243 fx
              · by_cases h245 : k < 245
                · have hk3 : k = 244 := by omega
                  subst hk3
                  exact gm_244 fx
                · by_cases h246 : k < 246
                  · have hk3 : k = 245 := by omega
                    subst hk3
                    exact gm_245 fx
                  · have hk3 : k = 246 := by omega
                    subst hk3
                    exact gm_246 fx
    · by_cases h288 : k < 288
      · by_cases h267 : k < 267
        · by_cases h257 : k < 257
          · by_cases h252 : k < 252
            · by_cases h249 : k < 249
              · by_cases h248 : k < 248
                · have hk3 : k = 247 := by omega
                  subst hk3
                  exact gm_247 fx
                · have hk3 : k = 248 := by omega
                  subst hk3
                  exact gm_248 fx
              · by_cases h250 : k < 250
                · have hk3 : k = 249 := by omega
                  subst hk3
                  exact gm_249 fx
                · by_cases h251 : k < 251
                  · have hk3 : k = 250 := by omega
                    subst hk3
                    exact gm_250 fx
                  · have hk3 : k = 251 := by omega
                    subst hk3
                    exact gm_251 fx
            · by_cases h254 : k < 254
              · by_cases h253 : k < 253
                · have hk3 : k = 252 := by omega
                  subst hk3
                  exact gm_252 fx
                · have hk3 : k = 253 := by omega
                  subst hk3
                  exact gm_253 fx
              · by_cases h255 : k < 255
                · have hk3 : k = 254 := by omega
                  subst hk3
                  exact gm_254 fx
                · by_cases h256 : k < 256
                  · have hk3 : k = 255 := by omega
                    subst hk3
                    exact gm_255 fx
                  · have hk3 : k = 256 := by omega
                    subst hk3
                    exact gm_256 fx
          · by_cases h262 : k < 262
            · by_cases h259 : k < 259
              · by_cases h258 : k < 258
                · have hk3 : k = 257 := by omega
                  subst hk3
                  exact gm_257 fx
                · have hk3 : k = 258 := by omega
                  subst hk3
                  exact gm_258 fx
              · by_cases h260 : k < 260
                · have hk3 : k = 259 := by omega
                  subst hk3
                  exact gm_259 fx
                · by_cases h261 : k < 261
                  · have hk3 : k = 260 := by omega
                    subst hk3
                    exact gm_260 fx
                  · have hk3 : k = 261 := by omega
                    subst hk3
                    exact gm_261 fx
            · by_cases h264 : k < 264
              · by_cases h263 : k < 263
                · have hk3 : k = 262 := by omega
                  subst hk3
                  exact gm_262 fx
                · have hk3 : k = 263 := by omega
                  subst hk3
                  exact gm_263 fx
              · by_cases h265 : k < 265
                · have hk3 : k = 264 := by omega
                  subst hk3
                  exact gm_264 fx
                · by_cases h266 : k < 266
                  · have hk3 : k = 265 := by omega
                    subst hk3
                    exact gm_265 fx
                  · have hk3 : k = 266 := by omega
                    subst hk3
                    exact gm_266 fx
        · by_cases h277 : k < 277
          · by_cases h272 : k < 272
            · by_cases h269 : k < 269
              · by_cases h268 : k < 268
                · have hk3 : k = 267 := by omega
                  subst hk3
                  exact gm_267 fx
                · have hk3 : k = 268 := by omega
                  subst hk3
                  exact gm_268 fx
              · by_cases h270 : k < 270
                · have hk3 : k = 269 := by omega
                  subst hk3
                  exact gm_269 fx
                · by_cases h271 : k < 271
                  · have hk3 : k = 270 := by omega
                    subst hk3
                    exact gm_270 fx
                  · have hk3 : k = 271 := by omega
                    subst hk3
                    exact gm_271 fx
            · by_cases h274 : k < 274
              · by_cases h273 : k < 273
                · have hk3 : k = 272 := by omega
                  subst hk3
                  exact gm_272 fx
                · have hk3 : k = 273 := by omega
                  subst hk3
                  exact gm_273 fx
              · by_cases h275 : k < 275
                · have hk3 : k = 274 := by omega
                  subst hk3
                  exact gm_274 fx
                · by_cases h276 : k < 276
                  · have hk3 : k = 275 := by omega
                    subst hk3
                    exact gm_275 fx
                  · have hk3 : k = 276 := by omega
                    subst hk3
                    exact gm_276 fx
          · by_cases h282 : k < 282
            · by_cases h279 : k < 279
              · by_cases h278 : k < 278
                · have hk3 : k = 277 := by omega
                  subst hk3
                  exact gm_277 fx
                · have hk3 : k = 278 := by omega
                  subst hk3
                  exact gm_278 fx
              · by_cases h280 : k < 280
                · have hk3 : k = 279 := by omega
                  subst hk3
                  exact gm_279 fx
                · by_cases h281 : k < 281
                  · have hk3 : k = 280 := by omega
                    subst hk3
                    exact gm_280 fx
                  · have hk3 : k = 281 := by omega
                    subst hk3
                    exact gm_281 fx
            · by_cases h285 : k < 285
              · by_cases h283 : k < 283
                · have hk3 : k = 282 := by omega
                  subst hk3
                  exact gm_282 fx
                · by_cases h284 : k < 284
                  · have hk3 : k = 283 := by omega
                    subst hk3
                    exact gm_283 fx
                  · have hk3 : k = 284 := by omega
                    subst hk3
                    exact gm_284 fx
              · by_cases h286 : k < 286
                · have hk3 : k = 285 := by omega
                  subst hk3
                  exact gm_285 fx
                · by_cases h287 : k < 287
                  · have hk3 : k = 286 := by omega
                    subst hk3
                    exact gm_286 fx
                  · have hk3 : k = 287 := by omega
                    subst hk3
                    exact gm_287 fx
      · by_cases h309 : k < 309
        · by_cases h298 : k < 298
          · by_cases h293 : k < 293
            · by_cases h290 : k < 290
              · by_cases h289 : k < 289
                · have hk3 : k = 288 := by omega
                  subst hk3
                  exact gm_288 fx
                · have hk3 : k = 289 := by omega
                  subst hk3
                  exact gm_289 fx
              · by_cases h291 : k < 291
                · have hk3 : k = 290 := by omega
                  subst hk3
                  exact gm_290 fx
                · by_cases h292 : k < 292
                  · have hk3 : k = 291 := by omega
                    subst hk3
                    exact gm_291 fx
                  · have hk3 : k = 292 := by omega
                    subst hk3
                    exact gm_292 fx
            · by_cases h295 : k < 295
              · by_cases h294 : k < 294
                · have hk3 : k = 293 := by omega
                  subst hk3
                  exact gm_293 fx
                · have hk3 : k = 294 := by omega
                  subst hk3
                  exact gm_294 fx
              · by_cases h296 : k < 296
                · have hk3 : k = 295 := by omega
                  subst hk3
                  exact gm_295 fx
                · by_cases h297 : k < 297
                  · have hk3 : k = 296 := by omega
                    subst hk3
                    exact gm_296 fx
                  · have hk3 : k = 297 := by omega
                    subst hk3
                    exact gm_297 fx
          · by_cases h303 : k < 303
            · by_cases h300 : k < 300
              · by_cases h299 : k < 299
                · have hk3 : k = 298 := by omega
                  subst hk3
                  exact gm_298 fx
                · have hk3 : k = 299 := by omega
                  subst hk3
                  exact gm_299 fx
              · by_cases h301 : k < 301
                · have hk3 : k = 300 := by omega
                  subst hk3
                  exact gm_300 fx
                · by_cases h302 : k < 302
                  · have hk3 : k = 301 := by omega
                    subst hk3
                    exact gm_301 fx
                  · have hk3 : k = 302 := by omega
                    subst hk3
                    exact gm_302 fx
            · by_cases h306 : k < 306
              · by_cases h304 : k < 304
                · have hk3 : k = 303 := by omega
                  subst hk3
                  exact gm_303 fx
                · by_cases h305 : k < 305
                  · have hk3 : k = 304 := by omega
                    subst hk3
                    exact gm_304 fx
                  · have hk3 : k = 305 := by omega
                    subst hk3
                    exact gm_305 fx
              · by_cases h307 : k < 307
                · have hk3 : k = 306 := by omega
                  subst hk3
                  exact gm_306 fx
                · by_cases h308 : k < 308
                  · have hk3 : k = 307 := by omega
                    subst hk3
                    exact gm_307 fx
                  · have hk3 : k = 308 := by omega
                    subst hk3
                    exact gm_308 fx
        · by_cases h319 : k < 319
          · by_cases h314 : k < 314
            · by_cases h311 : k < 311
              · by_cases h310 : k < 310
                · have hk3 : k = 309 := by omega
                  subst hk3
                  exact gm_309 fx
                · have hk3 : k = 310 := by omega
                  subst hk3
                  exact gm_310 fx
              · by_cases h312 : k < 312
                · have hk3 : k = 311 := by omega
                  subst hk3
                  exact gm_311 fx
                · by_cases h313 : k < 313
                  · have hk3 : k = 312 := by omega
                    subst hk3
                    exact gm_312 fx
                  · have hk3 : k = 313 := by omega
                    subst hk3
                    exact gm_313 fx
            · by_cases h316 : k < 316
              · by_cases h315 : k < 315
                · have hk3 : k = 314 := by omega
                  subst hk3
                  exact gm_314 fx
                · have hk3 : k = 315 := by omega
                  subst hk3
                  exact gm_315 fx
              · by_cases h317 : k < 317
                · have hk3 : k = 316 := by omega
                  subst hk3
                  exact gm_316 fx
                · by_cases h318 : k < 318
                  · have hk3 : k = 317 := by omega
                    subst hk3
                    exact gm_317 fx
                  · have hk3 : k = 318 := by omega
                    subst hk3
                    exact gm_318 fx
          · by_cases h324 : k < 324
            · by_cases h321 : k < 321
              · by_cases h320 : k < 320
                · have hk3 : k = 319 := by omega
                  subst hk3
                  exact gm_319 fx
                · have hk3 : k = 320 := by omega
                  subst hk3
                  exact gm_320 fx
              · by_cases h322 : k < 322
                · have hk3 : k = 321 := by omega
                  subst hk3
                  exact gm_321 fx
                · by_cases h323 : k < 323
                  · have hk3 : k = 322 := by omega
                    subst hk3
                    exact gm_322 fx
                  · have hk3 : k = 323 := by omega
                    subst hk3
                    exact gm_323 fx
            · by_cases h327 : k < 327
              · by_cases h325 : k < 325
                · have hk3 : k = 324 := by omega
                  subst hk3
                  exact gm_324 fx
                · by_cases h326 : k < 326
                  · have hk3 : k = 325 := by omega
                    subst hk3
                    exact gm_325 fx
                  · have hk3 : k = 326 := by omega
                    subst hk3
                    exact gm_326 fx
              · by_cases h328 : k < 328
                · have hk3 : k = 327 := by omega
                  subst hk3
                  exact gm_327 fx
                · by_cases h329 : k < 329
                  · have hk3 : k = 328 := by omega
                    subst hk3
                    exact gm_328 fx
                  · have hk3 : k = 329 := by omega
                    subst hk3
                    exact gm_329 fx
theorem mp_CT (fx : List Value → mm_H → Option (List Value × mm_H)) : ∀ (ci : Nat) (q : vw_C), mp_cl[ci]? = some q → ci < 900 ∧ (∀ w ∈ u_ws q.1 q.2.1 q.2.2, w ∈ mp_TB) ∧ ((mp_P fx).2.2.1 ci).length = q.2.2 ∧ (∀ k, k < q.2.2 → parseFieldDescriptor (q.2.1 k).2.2.1 = some (((mp_P fx).2.2.1 ci).getD k .byte)) ∧ (∀ a, a < q.2.2 → ∀ b, b < q.2.2 → a ≠ b → (q.2.1 a).2.1 ≠ (q.2.1 b).2.1) := by
  intro ci q hq
  have hl : ci < 11 := (List.getElem?_eq_some_iff.mp hq).1
  by_cases h5 : ci < 5
  · by_cases h2 : ci < 2
    · by_cases h1 : ci < 1
      · have hk3 : ci = 0 := by omega
        subst hk3
        cases hq
        exact ⟨by decide, mp_u0, rfl, mp_d0, mp_n0⟩
      · have hk3 : ci = 1 := by omega
        subst hk3
        cases hq
        exact ⟨by decide, mp_u1, rfl, mp_d1, mp_n1⟩
    · by_cases h3 : ci < 3
      · have hk3 : ci = 2 := by omega
        subst hk3
        cases hq
        exact ⟨by decide, mp_u2, rfl, mp_d2, mp_n2⟩
      · by_cases h4 : ci < 4
        · have hk3 : ci = 3 := by omega
          subst hk3
          cases hq
          exact ⟨by decide, mp_u3, rfl, mp_d3, mp_n3⟩
        · have hk3 : ci = 4 := by omega
          subst hk3
          cases hq
          exact ⟨by decide, mp_u4, rfl, mp_d4, mp_n4⟩
  · by_cases h8 : ci < 8
    · by_cases h6 : ci < 6
      · have hk3 : ci = 5 := by omega
        subst hk3
        cases hq
        exact ⟨by decide, mp_u5, rfl, mp_d5, mp_n5⟩
      · by_cases h7 : ci < 7
        · have hk3 : ci = 6 := by omega
          subst hk3
          cases hq
          exact ⟨by decide, mp_u6, rfl, mp_d6, mp_n6⟩
        · have hk3 : ci = 7 := by omega
          subst hk3
          cases hq
          exact ⟨by decide, mp_u7, rfl, mp_d7, mp_n7⟩
    · by_cases h9 : ci < 9
      · have hk3 : ci = 8 := by omega
        subst hk3
        cases hq
        exact ⟨by decide, mp_u8, rfl, mp_d8, mp_n8⟩
      · by_cases h10 : ci < 10
        · have hk3 : ci = 9 := by omega
          subst hk3
          cases hq
          exact ⟨by decide, mp_u9, rfl, mp_d9, mp_n9⟩
        · have hk3 : ci = 10 := by omega
          subst hk3
          cases hq
          exact ⟨by decide, mp_u10, rfl, mp_d10, mp_n10⟩
