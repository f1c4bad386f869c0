theorem zok_tab : ∀ M, M < 110 → ∀ e ∈ ztab M, zok M e.1 e.2.1 e.2.2 := by
  intro M hM
  match M, hM with
  | 0, _ => exact zoks_0
  | 1, _ => exact zoks_1
  | 2, _ => exact zoks_2
  | 3, _ => exact zoks_3
  | 4, _ => exact zoks_4
  | 5, _ => exact zoks_5
  | 6, _ => exact zoks_6
  | 7, _ => exact zoks_7
  | 8, _ => exact zoks_8
  | 9, _ => exact zoks_9
  | 10, _ => exact zoks_10
  | 11, _ => exact zoks_11
  | 12, _ => exact zoks_12
  | 13, _ => exact zoks_13
  | 14, _ => exact zoks_14
  | 15, _ => exact zoks_15
  | 16, _ => exact zoks_16
  | 17, _ => exact zoks_17
  | 18, _ => exact zoks_18
  | 19, _ => exact zoks_19
  | 20, _ => exact zoks_20
  | 21, _ => exact zoks_21
  | 22, _ => exact zoks_22
  | 23, _ => exact zoks_23
  | 24, _ => exact zoks_24
  | 25, _ => exact zoks_25
  | 26, _ => exact zoks_26
  | 27, _ => exact zoks_27
  | 28, _ => exact zoks_28
  | 29, _ => exact zoks_29
  | 30, _ => exact zoks_30
  | 31, _ => exact zoks_31
  | 32, _ => exact zoks_32
  | 33, _ => exact zoks_33
  | 34, _ => exact zoks_34
  | 35, _ => exact zoks_35
  | 36, _ => exact zoks_36
  | 37, _ => exact zoks_37
  | 38, _ => exact zoks_38
  | 39, _ => exact zoks_39
  | 40, _ => exact zoks_40
  | 41, _ => exact zoks_41
  | 42, _ => exact zoks_42
  | 43, _ => exact zoks_43
  | 44, _ => exact zoks_44
  | 45, _ => exact zoks_45
  | 46, _ => exact zoks_46
  | 47, _ => exact zoks_47
  | 48, _ => exact zoks_48
  | 49, _ => exact zoks_49
  | 50, _ => exact zoks_50
  | 51, _ => exact zoks_51
  | 52, _ => exact zoks_52
  | 53, _ => exact zoks_53
  | 54, _ => exact zoks_54
  | 55, _ => exact zoks_55
  | 56, _ => exact zoks_56
  | 57, _ => exact zoks_57
  | 58, _ => exact zoks_58
  | 59, _ => exact zoks_59
  | 60, _ => exact zoks_60
  | 61, _ => exact zoks_61
  | 62, _ => exact zoks_62
  | 63, _ => exact zoks_63
  | 64, _ => exact zoks_64
  | 65, _ => exact zoks_65
  | 66, _ => exact zoks_66
  | 67, _ => exact zoks_67
  | 68, _ => exact zoks_68
  | 69, _ => exact zoks_69
  | 70, _ => exact zoks_70
  | 71, _ => exact zoks_71
  | 72, _ => exact zoks_72
  | 73, _ => exact zoks_73
  | 74, _ => exact zoks_74
  | 75, _ => exact zoks_75
  | 76, _ => exact zoks_76
  | 77, _ => exact zoks_77
  | 78, _ => exact zoks_78
  | 79, _ => exact zoks_79
  | 80, _ => exact zoks_80
  | 81, _ => exact zoks_81
  | 82, _ => exact zoks_82
  | 83, _ => exact zoks_83
  | 84, _ => exact zoks_84
  | 85, _ => exact zoks_85
  | 86, _ => exact zoks_86
  | 87, _ => exact zoks_87
  | 88, _ => exact zoks_88
  | 89, _ => exact zoks_89
  | 90, _ => exact zoks_90
  | 91, _ => exact zoks_91
  | 92, _ => exact zoks_92
  | 93, _ => exact zoks_93
  | 94, _ => exact zoks_94
  | 95, _ => exact zoks_95
  | 96, _ => exact zoks_96
  | 97, _ => exact zoks_97
  | 98, _ => exact zoks_98
  | 99, _ => exact zoks_99
  | 100, _ => exact zoks_100
  | 101, _ => exact zoks_101
  | 102, _ => exact zoks_102
  | 103, _ => exact zoks_103
  | 104, _ => exact zoks_104
  | 105, _ => exact zoks_105
  | 106, _ => exact zoks_106
  | 107, _ => exact zoks_107
  | 108, _ => exact zoks_108
  | 109, _ => exact zoks_109
  | n + 110, h => exact absurd h (by omega)
theorem zok_all {M pc : Nat} {i : ZI} {nx : Nat} (h : zcd M pc = some (i, nx)) : zok M pc i nx := by
  unfold zcd at h
  cases hf : (ztab M).find? (fun e => e.1 == pc) with
  | none => rw [hf] at h; cases h
  | some e =>
    rw [hf] at h
    have h1 : e.2 = (i, nx) := Option.some.inj h
    have h2 : e ∈ ztab M := List.mem_of_find?_eq_some hf
    have h3 : e.1 = pc := by simpa using List.find?_some hf
    have hM : M < 110 := by
      rcases Nat.lt_or_ge M 110 with q | q
      · exact q
      · have h0 : ztab M = [] := by
          unfold ztab
          rw [List.getD_eq_getElem?_getD, List.getElem?_eq_none (show ztabs.length ≤ M from q)]
          rfl
        rw [h0] at h2; cases h2
    have h4 := zok_tab M hM e h2
    rw [h1, h3] at h4
    exact h4
