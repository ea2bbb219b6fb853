/-! ===== the cells: what the layout says ===== -/
theorem lc_0 : ly_c 0 = 6 := by decide +kernel
theorem lt_0_0 : ly_t 0 ((0 : Nat) : Int) = 1 := by decide +kernel
theorem lt_0_1 : ly_t 0 ((1 : Nat) : Int) = 6 := by decide +kernel
theorem lt_0_2 : ly_t 0 ((2 : Nat) : Int) = 8 := by decide +kernel
theorem lt_0_4 : ly_t 0 ((4 : Nat) : Int) = 9 := by decide +kernel
theorem lt_0_5 : ly_t 0 ((5 : Nat) : Int) = 10 := by decide +kernel
theorem lt_0_6 : ly_t 0 ((6 : Nat) : Int) = 11 := by decide +kernel
theorem lt_0_8 : ly_t 0 ((8 : Nat) : Int) = 12 := by decide +kernel
theorem lt_0_9 : ly_t 0 ((9 : Nat) : Int) = 20 := by decide +kernel
theorem lt_0_10 : ly_t 0 ((10 : Nat) : Int) = 22 := by decide +kernel
theorem lt_0_11 : ly_t 0 ((11 : Nat) : Int) = 24 := by decide +kernel
theorem lt_0_12 : ly_t 0 ((12 : Nat) : Int) = 25 := by decide +kernel
theorem lt_0_13 : ly_t 0 ((13 : Nat) : Int) = 30 := by decide +kernel
theorem lt_0_14 : ly_t 0 ((14 : Nat) : Int) = 31 := by decide +kernel
theorem lc_1 : ly_c 1 = 1 := by decide +kernel
theorem lt_1_0 : ly_t 1 ((0 : Nat) : Int) = 2 := by decide +kernel
theorem lt_1_1 : ly_t 1 ((1 : Nat) : Int) = 3 := by decide +kernel
theorem lt_1_2 : ly_t 1 ((2 : Nat) : Int) = 4 := by decide +kernel
theorem lt_1_3 : ly_t 1 ((3 : Nat) : Int) = 5 := by decide +kernel
theorem lc_2 : ly_c 2 = 8 := by decide +kernel
theorem ln_2 : ly_n 2 = 18 := by decide +kernel
theorem lc_3 : ly_c 3 = 8 := by decide +kernel
theorem ln_3 : ly_n 3 = 18 := by decide +kernel
theorem lc_4 : ly_c 4 = 8 := by decide +kernel
theorem ln_4 : ly_n 4 = 61 := by decide +kernel
theorem lc_5 : ly_c 5 = 8 := by decide +kernel
theorem ln_5 : ly_n 5 = 61 := by decide +kernel
theorem lc_6 : ly_c 6 = 5 := by decide +kernel
theorem lt_6_0 : ly_t 6 ((0 : Nat) : Int) = 7 := by decide +kernel
theorem lc_7 : ly_c 7 = 8 := by decide +kernel
theorem ln_7 : ly_n 7 = 60 := by decide +kernel
theorem lc_8 : ly_c 8 = 11 := by decide +kernel
theorem ln_8 : ly_n 8 = 60 := by decide +kernel
theorem lc_9 : ly_c 9 = 12 := by decide +kernel
theorem ln_9 : ly_n 9 = 3 := by decide +kernel
theorem lc_10 : ly_c 10 = 8 := by decide +kernel
theorem ln_10 : ly_n 10 = 10 := by decide +kernel
theorem lc_11 : ly_c 11 = 8 := by decide +kernel
theorem ln_11 : ly_n 11 = 10 := by decide +kernel
theorem lc_12 : ly_c 12 = 4 := by decide +kernel
theorem lt_12_6 : ly_t 12 ((6 : Nat) : Int) = 13 := by decide +kernel
theorem lt_12_7 : ly_t 12 ((7 : Nat) : Int) = 14 := by decide +kernel
theorem lt_12_8 : ly_t 12 ((8 : Nat) : Int) = 15 := by decide +kernel
theorem lt_12_9 : ly_t 12 ((9 : Nat) : Int) = 16 := by decide +kernel
theorem lt_12_10 : ly_t 12 ((10 : Nat) : Int) = 18 := by decide +kernel
theorem lc_13 : ly_c 13 = 8 := by decide +kernel
theorem ln_13 : ly_n 13 = 2 := by decide +kernel
theorem lc_14 : ly_c 14 = 8 := by decide +kernel
theorem ln_14 : ly_n 14 = 2 := by decide +kernel
theorem lc_15 : ly_c 15 = 8 := by decide +kernel
theorem ln_15 : ly_n 15 = 2 := by decide +kernel
theorem lc_16 : ly_c 16 = 5 := by decide +kernel
theorem lt_16_0 : ly_t 16 ((0 : Nat) : Int) = 17 := by decide +kernel
theorem lc_17 : ly_c 17 = 8 := by decide +kernel
theorem ln_17 : ly_n 17 = 60 := by decide +kernel
theorem lc_18 : ly_c 18 = 5 := by decide +kernel
theorem lt_18_0 : ly_t 18 ((0 : Nat) : Int) = 19 := by decide +kernel
theorem lc_19 : ly_c 19 = 8 := by decide +kernel
theorem ln_19 : ly_n 19 = 60 := by decide +kernel
theorem lc_20 : ly_c 20 = 5 := by decide +kernel
theorem lt_20_0 : ly_t 20 ((0 : Nat) : Int) = 21 := by decide +kernel
theorem lc_21 : ly_c 21 = 8 := by decide +kernel
theorem ln_21 : ly_n 21 = 60 := by decide +kernel
theorem lc_22 : ly_c 22 = 5 := by decide +kernel
theorem lt_22_0 : ly_t 22 ((0 : Nat) : Int) = 23 := by decide +kernel
theorem lc_23 : ly_c 23 = 8 := by decide +kernel
theorem ln_23 : ly_n 23 = 60 := by decide +kernel
theorem lc_24 : ly_c 24 = 11 := by decide +kernel
theorem ln_24 : ly_n 24 = 10 := by decide +kernel
theorem lc_25 : ly_c 25 = 2 := by decide +kernel
theorem lt_25_0 : ly_t 25 ((0 : Nat) : Int) = 26 := by decide +kernel
theorem lt_25_1 : ly_t 25 ((1 : Nat) : Int) = 27 := by decide +kernel
theorem lt_25_2 : ly_t 25 ((2 : Nat) : Int) = 28 := by decide +kernel
theorem lt_25_4 : ly_t 25 ((4 : Nat) : Int) = 29 := by decide +kernel
theorem lc_26 : ly_c 26 = 13 := by decide +kernel
theorem ln_26 : ly_n 26 = 80 := by decide +kernel
theorem lc_27 : ly_c 27 = 9 := by decide +kernel
theorem ln_27 : ly_n 27 = 80 := by decide +kernel
theorem lc_28 : ly_c 28 = 8 := by decide +kernel
theorem ln_28 : ly_n 28 = 80 := by decide +kernel
theorem lc_29 : ly_c 29 = 3 := by decide +kernel
theorem lc_30 : ly_c 30 = 3 := by decide +kernel
theorem lc_31 : ly_c 31 = 8 := by decide +kernel
theorem ln_31 : ly_n 31 = 60 := by decide +kernel
theorem lc_592 : ly_c 592 = 0 := by decide +kernel
theorem lt_592_3 : ly_t 592 ((3 : Nat) : Int) = 593 := by decide +kernel
theorem lt_592_4 : ly_t 592 ((4 : Nat) : Int) = 594 := by decide +kernel
theorem lt_592_5 : ly_t 592 ((5 : Nat) : Int) = 596 := by decide +kernel
theorem lt_592_6 : ly_t 592 ((6 : Nat) : Int) = 598 := by decide +kernel
theorem lc_680 : ly_c 680 = 0 := by decide +kernel
theorem lt_680_3 : ly_t 680 ((3 : Nat) : Int) = 681 := by decide +kernel
theorem lt_680_4 : ly_t 680 ((4 : Nat) : Int) = 682 := by decide +kernel
theorem lt_680_5 : ly_t 680 ((5 : Nat) : Int) = 684 := by decide +kernel
theorem lt_680_6 : ly_t 680 ((6 : Nat) : Int) = 686 := by decide +kernel
theorem lc_768 : ly_c 768 = 0 := by decide +kernel
theorem lt_768_3 : ly_t 768 ((3 : Nat) : Int) = 769 := by decide +kernel
theorem lt_768_4 : ly_t 768 ((4 : Nat) : Int) = 770 := by decide +kernel
theorem lt_768_5 : ly_t 768 ((5 : Nat) : Int) = 772 := by decide +kernel
theorem lt_768_6 : ly_t 768 ((6 : Nat) : Int) = 774 := by decide +kernel
theorem lc_856 : ly_c 856 = 7 := by decide +kernel
theorem lt_856_0 : ly_t 856 ((0 : Nat) : Int) = 857 := by decide +kernel
theorem lt_856_1 : ly_t 856 ((1 : Nat) : Int) = 858 := by decide +kernel
theorem lt_856_2 : ly_t 856 ((2 : Nat) : Int) = 859 := by decide +kernel
theorem lt_856_3 : ly_t 856 ((3 : Nat) : Int) = 860 := by decide +kernel
theorem lt_856_4 : ly_t 856 ((4 : Nat) : Int) = 861 := by decide +kernel
theorem lt_856_5 : ly_t 856 ((5 : Nat) : Int) = 862 := by decide +kernel
theorem lt_856_6 : ly_t 856 ((6 : Nat) : Int) = 863 := by decide +kernel
theorem lt_856_7 : ly_t 856 ((7 : Nat) : Int) = 864 := by decide +kernel
theorem lt_856_8 : ly_t 856 ((8 : Nat) : Int) = 865 := by decide +kernel
theorem lt_856_9 : ly_t 856 ((9 : Nat) : Int) = 866 := by decide +kernel
theorem lt_856_10 : ly_t 856 ((10 : Nat) : Int) = 867 := by decide +kernel
theorem lt_856_11 : ly_t 856 ((11 : Nat) : Int) = 868 := by decide +kernel
theorem lt_856_12 : ly_t 856 ((12 : Nat) : Int) = 869 := by decide +kernel
theorem lt_856_14 : ly_t 856 ((14 : Nat) : Int) = 870 := by decide +kernel
theorem lt_856_15 : ly_t 856 ((15 : Nat) : Int) = 871 := by decide +kernel
theorem lt_856_16 : ly_t 856 ((16 : Nat) : Int) = 872 := by decide +kernel
theorem lt_856_17 : ly_t 856 ((17 : Nat) : Int) = 873 := by decide +kernel
theorem lt_856_18 : ly_t 856 ((18 : Nat) : Int) = 874 := by decide +kernel
theorem lt_856_20 : ly_t 856 ((20 : Nat) : Int) = 875 := by decide +kernel
theorem lt_856_21 : ly_t 856 ((21 : Nat) : Int) = 876 := by decide +kernel
theorem lt_856_22 : ly_t 856 ((22 : Nat) : Int) = 877 := by decide +kernel
theorem lt_856_25 : ly_t 856 ((25 : Nat) : Int) = 878 := by decide +kernel
theorem lt_856_26 : ly_t 856 ((26 : Nat) : Int) = 879 := by decide +kernel
theorem lt_856_27 : ly_t 856 ((27 : Nat) : Int) = 880 := by decide +kernel
theorem lt_856_29 : ly_t 856 ((29 : Nat) : Int) = 881 := by decide +kernel
theorem lt_856_30 : ly_t 856 ((30 : Nat) : Int) = 882 := by decide +kernel
theorem lc_857 : ly_c 857 = 8 := by decide +kernel
theorem ln_857 : ly_n 857 = 18 := by decide +kernel
theorem lc_858 : ly_c 858 = 8 := by decide +kernel
theorem ln_858 : ly_n 858 = 18 := by decide +kernel
theorem lc_859 : ly_c 859 = 8 := by decide +kernel
theorem ln_859 : ly_n 859 = 240 := by decide +kernel
theorem lc_860 : ly_c 860 = 8 := by decide +kernel
theorem ln_860 : ly_n 860 = 4 := by decide +kernel
theorem lc_861 : ly_c 861 = 9 := by decide +kernel
theorem ln_861 : ly_n 861 = 101 := by decide +kernel
theorem lc_862 : ly_c 862 = 9 := by decide +kernel
theorem ln_862 : ly_n 862 = 101 := by decide +kernel
theorem lc_863 : ly_c 863 = 8 := by decide +kernel
theorem ln_863 : ly_n 863 = 101 := by decide +kernel
theorem lc_864 : ly_c 864 = 8 := by decide +kernel
theorem ln_864 : ly_n 864 = 101 := by decide +kernel
theorem lc_865 : ly_c 865 = 8 := by decide +kernel
theorem ln_865 : ly_n 865 = 202 := by decide +kernel
theorem lc_866 : ly_c 866 = 8 := by decide +kernel
theorem ln_866 : ly_n 866 = 202 := by decide +kernel
theorem lc_867 : ly_c 867 = 8 := by decide +kernel
theorem ln_867 : ly_n 867 = 202 := by decide +kernel
theorem lc_868 : ly_c 868 = 8 := by decide +kernel
theorem ln_868 : ly_n 868 = 6060 := by decide +kernel
theorem lc_869 : ly_c 869 = 8 := by decide +kernel
theorem ln_869 : ly_n 869 = 6060 := by decide +kernel
theorem lc_870 : ly_c 870 = 8 := by decide +kernel
theorem ln_870 : ly_n 870 = 3 := by decide +kernel
theorem lc_871 : ly_c 871 = 8 := by decide +kernel
theorem ln_871 : ly_n 871 = 3 := by decide +kernel
theorem lc_872 : ly_c 872 = 8 := by decide +kernel
theorem ln_872 : ly_n 872 = 3 := by decide +kernel
theorem lc_873 : ly_c 873 = 8 := by decide +kernel
theorem ln_873 : ly_n 873 = 180 := by decide +kernel
theorem lc_874 : ly_c 874 = 8 := by decide +kernel
theorem ln_874 : ly_n 874 = 3 := by decide +kernel
theorem lc_875 : ly_c 875 = 8 := by decide +kernel
theorem ln_875 : ly_n 875 = 10 := by decide +kernel
theorem lc_876 : ly_c 876 = 8 := by decide +kernel
theorem ln_876 : ly_n 876 = 10 := by decide +kernel
theorem lc_877 : ly_c 877 = 8 := by decide +kernel
theorem ln_877 : ly_n 877 = 128 := by decide +kernel
theorem lc_878 : ly_c 878 = 8 := by decide +kernel
theorem ln_878 : ly_n 878 = 84 := by decide +kernel
theorem lc_879 : ly_c 879 = 9 := by decide +kernel
theorem ln_879 : ly_n 879 = 84 := by decide +kernel
theorem lc_880 : ly_c 880 = 8 := by decide +kernel
theorem ln_880 : ly_n 880 = 84 := by decide +kernel
theorem lc_881 : ly_c 881 = 8 := by decide +kernel
theorem ln_881 : ly_n 881 = 64 := by decide +kernel
theorem lc_882 : ly_c 882 = 8 := by decide +kernel
theorem ln_882 : ly_n 882 = 64 := by decide +kernel
theorem lc_883 : ly_c 883 = 10 := by decide +kernel
theorem ln_883 : ly_n 883 = 1 := by decide +kernel
noncomputable def ly_q (k : Nat) : Bool := match ly_c k with
  | 5 => Nat.beq (ly_t k ((0 : Nat) : Int)) (k + 1) && (Nat.beq (ly_c (k + 1)) 8 && (Nat.beq (ly_n (k + 1)) 60 && (Nat.beq (k % 2) 0 && Nat.ble 6 k)))
  | 4 => Nat.beq (ly_t k ((6 : Nat) : Int)) (k + 1) && (Nat.beq (ly_t k ((7 : Nat) : Int)) (k + 2) && (Nat.beq (ly_t k ((8 : Nat) : Int)) (k + 3) && (Nat.beq (ly_t k ((9 : Nat) : Int)) (k + 4) && (Nat.beq (ly_t k ((10 : Nat) : Int)) (k + 6) && (Nat.beq (ly_c (k + 1)) 8 && (Nat.beq (ly_c (k + 2)) 8 && (Nat.beq (ly_c (k + 3)) 8 && (Nat.beq (ly_n (k + 1)) 2 && (Nat.beq (ly_n (k + 2)) 2 && (Nat.beq (ly_n (k + 3)) 2 && (Nat.beq (ly_c (k + 4)) 5 && (Nat.beq (ly_c (k + 6)) 5 && (Nat.beq k 12 || (Nat.beq (k % 8) 0 && (Nat.ble 32 k && (Nat.ble k 848 && (decide (k ≠ 592) && (decide (k ≠ 680) && decide (k ≠ 768)))))))))))))))))))
  | 0 => Nat.beq (ly_t k ((3 : Nat) : Int)) (k + 1) && (Nat.beq (ly_t k ((4 : Nat) : Int)) (k + 2) && (Nat.beq (ly_t k ((5 : Nat) : Int)) (k + 4) && (Nat.beq (ly_t k ((6 : Nat) : Int)) (k + 6) && (Nat.beq (ly_c (k + 1)) 11 && (Nat.beq (ly_n (k + 1)) 10 && (Nat.beq (ly_c (k + 2)) 5 && (Nat.beq (ly_c (k + 4)) 5 && (Nat.beq (ly_c (k + 6)) 5 && ((Nat.beq k 592 || (Nat.beq k 680 || Nat.beq k 768)) && (List.range 10).all (fun j => Nat.beq (ly_t (k + 1) ((j : Nat) : Int)) (k + 8 + 8 * j) && Nat.beq (ly_c (k + 8 + 8 * j)) 4))))))))))
  | _ => true
set_option maxRecDepth 100000 in
theorem ly_qA : ∀ k ∈ List.range 884, ly_q k = true := by decide +kernel
theorem ly_qk {k c : Nat} (h : ly_c k = c) (hc : c ≤ 13) : ly_q k = true := ly_qA k (List.mem_range.mpr (ly_big (by omega)))
section LYF
variable {k s c : Nat}
theorem tk_all (h : ly_c k = 5) : ly_t k ((0 : Nat) : Int) = k + 1 ∧ ly_c (k + 1) = 8 ∧ ly_n (k + 1) = 60 ∧ k % 2 = 0 ∧ 6 ≤ k := by
  have hq := ly_qk h (by decide)
  unfold ly_q at hq
  rw [h] at hq
  simpa using hq
theorem tk_t (h : ly_c k = 5) : ly_t k ((0 : Nat) : Int) = k + 1 := (tk_all h).1
theorem tk_c (h : ly_c k = 5) : ly_c (k + 1) = 8 := (tk_all h).2.1
theorem tk_n (h : ly_c k = 5) : ly_n (k + 1) = 60 := (tk_all h).2.2.1
theorem tk_e (h : ly_c k = 5) : k % 2 = 0 ∧ 6 ≤ k := (tk_all h).2.2.2
theorem st_all (h : ly_c s = 4) : ly_t s ((6 : Nat) : Int) = s + 1 ∧ ly_t s ((7 : Nat) : Int) = s + 2 ∧ ly_t s ((8 : Nat) : Int) = s + 3 ∧ ly_t s ((9 : Nat) : Int) = s + 4 ∧ ly_t s ((10 : Nat) : Int) = s + 6 ∧ ly_c (s + 1) = 8 ∧ ly_c (s + 2) = 8 ∧ ly_c (s + 3) = 8 ∧ ly_n (s + 1) = 2 ∧ ly_n (s + 2) = 2 ∧ ly_n (s + 3) = 2 ∧ ly_c (s + 4) = 5 ∧ ly_c (s + 6) = 5 ∧ (s = 12 ∨ (s % 8 = 0 ∧ 32 ≤ s ∧ s ≤ 848 ∧ s ≠ 592 ∧ s ≠ 680 ∧ s ≠ 768)) := by
  have hq := ly_qk h (by decide)
  unfold ly_q at hq
  rw [h] at hq
  simpa using hq
theorem st_t6 (h : ly_c s = 4) : ly_t s ((6 : Nat) : Int) = s + 1 := (st_all h).1
theorem st_t7 (h : ly_c s = 4) : ly_t s ((7 : Nat) : Int) = s + 2 := (st_all h).2.1
theorem st_t8 (h : ly_c s = 4) : ly_t s ((8 : Nat) : Int) = s + 3 := (st_all h).2.2.1
theorem st_t9 (h : ly_c s = 4) : ly_t s ((9 : Nat) : Int) = s + 4 := (st_all h).2.2.2.1
theorem st_t10 (h : ly_c s = 4) : ly_t s ((10 : Nat) : Int) = s + 6 := (st_all h).2.2.2.2.1
theorem st_c1 (h : ly_c s = 4) : ly_c (s + 1) = 8 := (st_all h).2.2.2.2.2.1
theorem st_c2 (h : ly_c s = 4) : ly_c (s + 2) = 8 := (st_all h).2.2.2.2.2.2.1
theorem st_c3 (h : ly_c s = 4) : ly_c (s + 3) = 8 := (st_all h).2.2.2.2.2.2.2.1
theorem st_n1 (h : ly_c s = 4) : ly_n (s + 1) = 2 := (st_all h).2.2.2.2.2.2.2.2.1
theorem st_n2 (h : ly_c s = 4) : ly_n (s + 2) = 2 := (st_all h).2.2.2.2.2.2.2.2.2.1
theorem st_n3 (h : ly_c s = 4) : ly_n (s + 3) = 2 := (st_all h).2.2.2.2.2.2.2.2.2.2.1
theorem st_c4 (h : ly_c s = 4) : ly_c (s + 4) = 5 := (st_all h).2.2.2.2.2.2.2.2.2.2.2.1
theorem st_c6 (h : ly_c s = 4) : ly_c (s + 6) = 5 := (st_all h).2.2.2.2.2.2.2.2.2.2.2.2.1
theorem st_al (h : ly_c s = 4) : s = 12 ∨ (s % 8 = 0 ∧ 32 ≤ s ∧ s ≤ 848 ∧ s ≠ 592 ∧ s ≠ 680 ∧ s ≠ 768) := (st_all h).2.2.2.2.2.2.2.2.2.2.2.2.2
theorem cl_all (h : ly_c c = 0) : ly_t c ((3 : Nat) : Int) = c + 1 ∧ ly_t c ((4 : Nat) : Int) = c + 2 ∧ ly_t c ((5 : Nat) : Int) = c + 4 ∧ ly_t c ((6 : Nat) : Int) = c + 6 ∧ ly_c (c + 1) = 11 ∧ ly_n (c + 1) = 10 ∧ ly_c (c + 2) = 5 ∧ ly_c (c + 4) = 5 ∧ ly_c (c + 6) = 5 ∧ (c = 592 ∨ c = 680 ∨ c = 768) ∧ ∀ j, j < 10 → ly_t (c + 1) ((j : Nat) : Int) = c + 8 + 8 * j ∧ ly_c (c + 8 + 8 * j) = 4 := by
  have hq := ly_qk h (by decide)
  unfold ly_q at hq
  rw [h] at hq
  simpa using hq
theorem cl_t3 (h : ly_c c = 0) : ly_t c ((3 : Nat) : Int) = c + 1 := (cl_all h).1
theorem cl_t4 (h : ly_c c = 0) : ly_t c ((4 : Nat) : Int) = c + 2 := (cl_all h).2.1
theorem cl_t5 (h : ly_c c = 0) : ly_t c ((5 : Nat) : Int) = c + 4 := (cl_all h).2.2.1
theorem cl_t6 (h : ly_c c = 0) : ly_t c ((6 : Nat) : Int) = c + 6 := (cl_all h).2.2.2.1
theorem cl_c1 (h : ly_c c = 0) : ly_c (c + 1) = 11 := (cl_all h).2.2.2.2.1
theorem cl_n1 (h : ly_c c = 0) : ly_n (c + 1) = 10 := (cl_all h).2.2.2.2.2.1
theorem cl_c2 (h : ly_c c = 0) : ly_c (c + 2) = 5 := (cl_all h).2.2.2.2.2.2.1
theorem cl_c4 (h : ly_c c = 0) : ly_c (c + 4) = 5 := (cl_all h).2.2.2.2.2.2.2.1
theorem cl_c6 (h : ly_c c = 0) : ly_c (c + 6) = 5 := (cl_all h).2.2.2.2.2.2.2.2.1
theorem cl_al (h : ly_c c = 0) : c = 592 ∨ c = 680 ∨ c = 768 := (cl_all h).2.2.2.2.2.2.2.2.2.1
theorem pd_t (h : ly_c c = 0) {x : Int} (h0 : 0 ≤ x) (h1 : x < 10) : ly_t (c + 1) x = c + 8 + 8 * x.toNat := by
  have h2 := ((cl_all h).2.2.2.2.2.2.2.2.2.2 x.toNat (by omega)).1
  rw [Int.toNat_of_nonneg h0] at h2
  exact h2
theorem pd_c (h : ly_c c = 0) {x : Int} (h0 : 0 ≤ x) (h1 : x < 10) : ly_c (c + 8 + 8 * x.toNat) = 4 := ((cl_all h).2.2.2.2.2.2.2.2.2.2 x.toNat (by omega)).2
theorem lg_A : ∀ j ∈ List.range 60, ly_t 8 ((j : Nat) : Int) = 32 + 8 * j ∧ ly_c (32 + 8 * j) = 4 := by decide +kernel
theorem lg_t {x : Int} (h0 : 0 ≤ x) (h1 : x < 60) : ly_t 8 x = 32 + 8 * x.toNat := by
  have h2 := (lg_A x.toNat (List.mem_range.mpr (by omega))).1
  rw [Int.toNat_of_nonneg h0] at h2
  exact h2
theorem lg_c {x : Int} (h0 : 0 ≤ x) (h1 : x < 60) : ly_c (32 + 8 * x.toNat) = 4 := (lg_A x.toNat (List.mem_range.mpr (by omega))).2
theorem mp_A : ∀ j ∈ List.range 10, ly_t 24 ((j : Nat) : Int) = 512 + 8 * j ∧ ly_c (512 + 8 * j) = 4 := by decide +kernel
theorem mp_t {x : Int} (h0 : 0 ≤ x) (h1 : x < 10) : ly_t 24 x = 512 + 8 * x.toNat := by
  have h2 := (mp_A x.toNat (List.mem_range.mpr (by omega))).1
  rw [Int.toNat_of_nonneg h0] at h2
  exact h2
theorem mp_c {x : Int} (h0 : 0 ≤ x) (h1 : x < 10) : ly_c (512 + 8 * x.toNat) = 4 := (mp_A x.toNat (List.mem_range.mpr (by omega))).2
theorem cs_A : ∀ j ∈ List.range 3, ly_t 9 ((j : Nat) : Int) = 592 + 88 * j ∧ ly_c (592 + 88 * j) = 0 := by decide +kernel
theorem cs_t {x : Int} (h0 : 0 ≤ x) (h1 : x < 3) : ly_t 9 x = 592 + 88 * x.toNat := by
  have h2 := (cs_A x.toNat (List.mem_range.mpr (by omega))).1
  rw [Int.toNat_of_nonneg h0] at h2
  exact h2
theorem cs_c {x : Int} (h0 : 0 ≤ x) (h1 : x < 3) : ly_c (592 + 88 * x.toNat) = 0 := (cs_A x.toNat (List.mem_range.mpr (by omega))).2
end LYF
