theorem fd_X0_7 : aw_FL RX0 7 0 0 0 (.object "WideMap$Node") false := ⟨RX0, TX0, 3, rfl, rfl, by decide, by decide, rfl, rfl, rfl, fl_X0_7, rfl⟩
theorem fd_X0_13 : aw_FL RX0 13 0 1 1 .int false := ⟨RX0, TX0, 3, rfl, rfl, by decide, by decide, rfl, rfl, rfl, fl_X0_13, rfl⟩
theorem fd_X0_17 : aw_FL RX0 17 0 2 2 .int false := ⟨RX0, TX0, 3, rfl, rfl, by decide, by decide, rfl, rfl, rfl, fl_X0_17, rfl⟩
theorem fd_X1_9 : aw_FL RX1 9 1 0 64 .int false := ⟨RX1, TX1, 3, rfl, rfl, by decide, by decide, rfl, rfl, rfl, fl_X1_9, rfl⟩
theorem fd_X1_15 : aw_FL RX1 15 1 1 65 .int false := ⟨RX1, TX1, 3, rfl, rfl, by decide, by decide, rfl, rfl, rfl, fl_X1_15, rfl⟩
theorem fd_X1_18 : aw_FL RX1 18 1 2 66 .int false := ⟨RX1, TX1, 3, rfl, rfl, by decide, by decide, rfl, rfl, rfl, fl_X1_18, rfl⟩
theorem fd_X10_10 : aw_FL RX10 10 10 0 640 (.object "WideMap$Tape") true := ⟨RX10, TX10, 17, rfl, rfl, by decide, by decide, rfl, rfl, rfl, fl_X10_10, rfl⟩
theorem fd_X10_21 : aw_FL RX10 21 10 1 641 (.object "WideMap$Reader") true := ⟨RX10, TX10, 17, rfl, rfl, by decide, by decide, rfl, rfl, rfl, fl_X10_21, rfl⟩
theorem fd_X10_27 : aw_FL RX10 27 10 2 642 (.array (.object "WideMap$Program")) true := ⟨RX10, TX10, 17, rfl, rfl, by decide, by decide, rfl, rfl, rfl, fl_X10_27, rfl⟩
theorem fd_X10_32 : aw_FL RX10 32 10 3 643 (.object "WideMap$Program") false := ⟨RX10, TX10, 17, rfl, rfl, by decide, by decide, rfl, rfl, rfl, fl_X10_32, rfl⟩
theorem fd_X10_39 : aw_FL RX10 39 10 5 645 (.object "WideMap$Grower") true := ⟨RX10, TX10, 17, rfl, rfl, by decide, by decide, rfl, rfl, rfl, fl_X10_39, rfl⟩
theorem fd_X10_46 : aw_FL RX10 46 10 6 646 (.object "WideMap$Maps") true := ⟨RX10, TX10, 17, rfl, rfl, by decide, by decide, rfl, rfl, rfl, fl_X10_46, rfl⟩
theorem fd_X10_52 : aw_FL RX10 52 10 7 647 (.array (.object "WideMap$Builder")) true := ⟨RX10, TX10, 17, rfl, rfl, by decide, by decide, rfl, rfl, rfl, fl_X10_52, rfl⟩
theorem fd_X10_57 : aw_FL RX10 57 10 8 648 (.array .int) true := ⟨RX10, TX10, 17, rfl, rfl, by decide, by decide, rfl, rfl, rfl, fl_X10_57, rfl⟩
theorem fd_X10_64 : aw_FL RX10 64 10 9 649 (.object "WideMap$Sheet") true := ⟨RX10, TX10, 17, rfl, rfl, by decide, by decide, rfl, rfl, rfl, fl_X10_64, rfl⟩
theorem fd_X10_68 : aw_FL RX10 68 10 10 650 (.object "WideMap$Sheet") true := ⟨RX10, TX10, 17, rfl, rfl, by decide, by decide, rfl, rfl, rfl, fl_X10_68, rfl⟩
theorem fd_X10_71 : aw_FL RX10 71 10 11 651 (.object "WideMap$Sheet") true := ⟨RX10, TX10, 17, rfl, rfl, by decide, by decide, rfl, rfl, rfl, fl_X10_71, rfl⟩
theorem fd_X10_77 : aw_FL RX10 77 10 12 652 (.object "WideMap$Row") true := ⟨RX10, TX10, 17, rfl, rfl, by decide, by decide, rfl, rfl, rfl, fl_X10_77, rfl⟩
theorem fd_X10_81 : aw_FL RX10 81 10 13 653 (.object "WideMap$Row") true := ⟨RX10, TX10, 17, rfl, rfl, by decide, by decide, rfl, rfl, rfl, fl_X10_81, rfl⟩
theorem fd_X10_84 : aw_FL RX10 84 10 14 654 (.object "WideMap$Row") true := ⟨RX10, TX10, 17, rfl, rfl, by decide, by decide, rfl, rfl, rfl, fl_X10_84, rfl⟩
theorem fd_X10_90 : aw_FL RX10 90 10 15 655 (.object "WideMap$Listing") true := ⟨RX10, TX10, 17, rfl, rfl, by decide, by decide, rfl, rfl, rfl, fl_X10_90, rfl⟩
theorem fd_X10_153 : aw_FL RX10 153 10 4 644 .int false := ⟨RX10, TX10, 17, rfl, rfl, by decide, by decide, rfl, rfl, rfl, fl_X10_153, rfl⟩
theorem fd_X10_395 : aw_FL RX10 395 10 16 656 .int false := ⟨RX10, TX10, 17, rfl, rfl, by decide, by decide, rfl, rfl, rfl, fl_X10_395, rfl⟩
theorem fd_X11_9 : aw_FL RX11 9 11 1 705 (.array .byte) true := ⟨RX11, TX11, 56, rfl, rfl, by decide, by decide, rfl, rfl, rfl, fl_X11_9, rfl⟩
theorem fd_X11_13 : aw_FL RX11 13 11 5 709 (.array .int) true := ⟨RX11, TX11, 56, rfl, rfl, by decide, by decide, rfl, rfl, rfl, fl_X11_13, rfl⟩
theorem fd_X11_17 : aw_FL RX11 17 11 6 710 (.array .int) true := ⟨RX11, TX11, 56, rfl, rfl, by decide, by decide, rfl, rfl, rfl, fl_X11_17, rfl⟩
theorem fd_X11_20 : aw_FL RX11 20 11 7 711 (.array .int) true := ⟨RX11, TX11, 56, rfl, rfl, by decide, by decide, rfl, rfl, rfl, fl_X11_20, rfl⟩
theorem fd_X11_23 : aw_FL RX11 23 11 10 714 (.array .int) true := ⟨RX11, TX11, 56, rfl, rfl, by decide, by decide, rfl, rfl, rfl, fl_X11_23, rfl⟩
theorem fd_X11_26 : aw_FL RX11 26 11 11 715 (.array .int) true := ⟨RX11, TX11, 56, rfl, rfl, by decide, by decide, rfl, rfl, rfl, fl_X11_26, rfl⟩
theorem fd_X11_29 : aw_FL RX11 29 11 12 716 (.array .int) true := ⟨RX11, TX11, 56, rfl, rfl, by decide, by decide, rfl, rfl, rfl, fl_X11_29, rfl⟩
theorem fd_X11_32 : aw_FL RX11 32 11 13 717 (.array .int) true := ⟨RX11, TX11, 56, rfl, rfl, by decide, by decide, rfl, rfl, rfl, fl_X11_32, rfl⟩
theorem fd_X11_35 : aw_FL RX11 35 11 14 718 (.array .int) true := ⟨RX11, TX11, 56, rfl, rfl, by decide, by decide, rfl, rfl, rfl, fl_X11_35, rfl⟩
theorem fd_X11_39 : aw_FL RX11 39 11 15 719 (.array .int) true := ⟨RX11, TX11, 56, rfl, rfl, by decide, by decide, rfl, rfl, rfl, fl_X11_39, rfl⟩
theorem fd_X11_42 : aw_FL RX11 42 11 16 720 (.array .int) true := ⟨RX11, TX11, 56, rfl, rfl, by decide, by decide, rfl, rfl, rfl, fl_X11_42, rfl⟩
theorem fd_X11_45 : aw_FL RX11 45 11 19 723 .int false := ⟨RX11, TX11, 56, rfl, rfl, by decide, by decide, rfl, rfl, rfl, fl_X11_45, rfl⟩
theorem fd_X11_49 : aw_FL RX11 49 11 23 727 (.array .int) true := ⟨RX11, TX11, 56, rfl, rfl, by decide, by decide, rfl, rfl, rfl, fl_X11_49, rfl⟩
theorem fd_X11_52 : aw_FL RX11 52 11 24 728 (.array .int) true := ⟨RX11, TX11, 56, rfl, rfl, by decide, by decide, rfl, rfl, rfl, fl_X11_52, rfl⟩
theorem fd_X11_55 : aw_FL RX11 55 11 26 730 (.array .int) true := ⟨RX11, TX11, 56, rfl, rfl, by decide, by decide, rfl, rfl, rfl, fl_X11_55, rfl⟩
theorem fd_X11_58 : aw_FL RX11 58 11 27 731 (.array .int) true := ⟨RX11, TX11, 56, rfl, rfl, by decide, by decide, rfl, rfl, rfl, fl_X11_58, rfl⟩
theorem fd_X11_61 : aw_FL RX11 61 11 28 732 (.array .int) true := ⟨RX11, TX11, 56, rfl, rfl, by decide, by decide, rfl, rfl, rfl, fl_X11_61, rfl⟩
theorem fd_X11_64 : aw_FL RX11 64 11 29 733 (.array .int) true := ⟨RX11, TX11, 56, rfl, rfl, by decide, by decide, rfl, rfl, rfl, fl_X11_64, rfl⟩
theorem fd_X11_67 : aw_FL RX11 67 11 32 736 (.array .int) true := ⟨RX11, TX11, 56, rfl, rfl, by decide, by decide, rfl, rfl, rfl, fl_X11_67, rfl⟩
theorem fd_X11_70 : aw_FL RX11 70 11 33 737 (.array .int) true := ⟨RX11, TX11, 56, rfl, rfl, by decide, by decide, rfl, rfl, rfl, fl_X11_70, rfl⟩
theorem fd_X11_73 : aw_FL RX11 73 11 34 738 (.array .int) true := ⟨RX11, TX11, 56, rfl, rfl, by decide, by decide, rfl, rfl, rfl, fl_X11_73, rfl⟩
theorem fd_X11_76 : aw_FL RX11 76 11 35 739 (.array .int) true := ⟨RX11, TX11, 56, rfl, rfl, by decide, by decide, rfl, rfl, rfl, fl_X11_76, rfl⟩
theorem fd_X11_79 : aw_FL RX11 79 11 36 740 (.array .int) true := ⟨RX11, TX11, 56, rfl, rfl, by decide, by decide, rfl, rfl, rfl, fl_X11_79, rfl⟩
theorem fd_X11_82 : aw_FL RX11 82 11 37 741 (.array .int) true := ⟨RX11, TX11, 56, rfl, rfl, by decide, by decide, rfl, rfl, rfl, fl_X11_82, rfl⟩
theorem fd_X11_85 : aw_FL RX11 85 11 38 742 (.array .int) true := ⟨RX11, TX11, 56, rfl, rfl, by decide, by decide, rfl, rfl, rfl, fl_X11_85, rfl⟩
theorem fd_X11_88 : aw_FL RX11 88 11 39 743 (.array .boolean) true := ⟨RX11, TX11, 56, rfl, rfl, by decide, by decide, rfl, rfl, rfl, fl_X11_88, rfl⟩
theorem fd_X11_92 : aw_FL RX11 92 11 40 744 (.array .boolean) true := ⟨RX11, TX11, 56, rfl, rfl, by decide, by decide, rfl, rfl, rfl, fl_X11_92, rfl⟩
theorem fd_X11_95 : aw_FL RX11 95 11 45 749 (.array .int) true := ⟨RX11, TX11, 56, rfl, rfl, by decide, by decide, rfl, rfl, rfl, fl_X11_95, rfl⟩
theorem fd_X11_98 : aw_FL RX11 98 11 46 750 (.array .int) true := ⟨RX11, TX11, 56, rfl, rfl, by decide, by decide, rfl, rfl, rfl, fl_X11_98, rfl⟩
theorem fd_X11_101 : aw_FL RX11 101 11 47 751 (.array .int) true := ⟨RX11, TX11, 56, rfl, rfl, by decide, by decide, rfl, rfl, rfl, fl_X11_101, rfl⟩
theorem fd_X11_104 : aw_FL RX11 104 11 48 752 (.array .int) true := ⟨RX11, TX11, 56, rfl, rfl, by decide, by decide, rfl, rfl, rfl, fl_X11_104, rfl⟩
theorem fd_X11_107 : aw_FL RX11 107 11 51 755 (.array .byte) true := ⟨RX11, TX11, 56, rfl, rfl, by decide, by decide, rfl, rfl, rfl, fl_X11_107, rfl⟩
theorem fd_X11_110 : aw_FL RX11 110 11 52 756 (.array .byte) true := ⟨RX11, TX11, 56, rfl, rfl, by decide, by decide, rfl, rfl, rfl, fl_X11_110, rfl⟩
theorem fd_X11_113 : aw_FL RX11 113 11 55 759 (.array .int) true := ⟨RX11, TX11, 56, rfl, rfl, by decide, by decide, rfl, rfl, rfl, fl_X11_113, rfl⟩
theorem fd_X11_116 : aw_FL RX11 116 11 0 704 .int false := ⟨RX11, TX11, 56, rfl, rfl, by decide, by decide, rfl, rfl, rfl, fl_X11_116, rfl⟩
theorem fd_X11_119 : aw_FL RX11 119 11 2 706 .int false := ⟨RX11, TX11, 56, rfl, rfl, by decide, by decide, rfl, rfl, rfl, fl_X11_119, rfl⟩
theorem fd_X11_130 : aw_FL RX11 130 11 3 707 .int false := ⟨RX11, TX11, 56, rfl, rfl, by decide, by decide, rfl, rfl, rfl, fl_X11_130, rfl⟩
theorem fd_X11_137 : aw_FL RX11 137 11 4 708 .int false := ⟨RX11, TX11, 56, rfl, rfl, by decide, by decide, rfl, rfl, rfl, fl_X11_137, rfl⟩
theorem fd_X11_153 : aw_FL RX11 153 11 8 712 .int false := ⟨RX11, TX11, 56, rfl, rfl, by decide, by decide, rfl, rfl, rfl, fl_X11_153, rfl⟩
theorem fd_X11_184 : aw_FL RX11 184 11 17 721 .int false := ⟨RX11, TX11, 56, rfl, rfl, by decide, by decide, rfl, rfl, rfl, fl_X11_184, rfl⟩
theorem fd_X11_187 : aw_FL RX11 187 11 18 722 .int false := ⟨RX11, TX11, 56, rfl, rfl, by decide, by decide, rfl, rfl, rfl, fl_X11_187, rfl⟩
theorem fd_X11_190 : aw_FL RX11 190 11 20 724 .int false := ⟨RX11, TX11, 56, rfl, rfl, by decide, by decide, rfl, rfl, rfl, fl_X11_190, rfl⟩
theorem fd_X11_215 : aw_FL RX11 215 11 25 729 .int false := ⟨RX11, TX11, 56, rfl, rfl, by decide, by decide, rfl, rfl, rfl, fl_X11_215, rfl⟩
theorem fd_X11_243 : aw_FL RX11 243 11 31 735 .int false := ⟨RX11, TX11, 56, rfl, rfl, by decide, by decide, rfl, rfl, rfl, fl_X11_243, rfl⟩
theorem fd_X11_249 : aw_FL RX11 249 11 30 734 .int false := ⟨RX11, TX11, 56, rfl, rfl, by decide, by decide, rfl, rfl, rfl, fl_X11_249, rfl⟩
theorem fd_X11_255 : aw_FL RX11 255 11 22 726 .int false := ⟨RX11, TX11, 56, rfl, rfl, by decide, by decide, rfl, rfl, rfl, fl_X11_255, rfl⟩
theorem fd_X11_261 : aw_FL RX11 261 11 41 745 .int false := ⟨RX11, TX11, 56, rfl, rfl, by decide, by decide, rfl, rfl, rfl, fl_X11_261, rfl⟩
theorem fd_X11_264 : aw_FL RX11 264 11 44 748 .boolean false := ⟨RX11, TX11, 56, rfl, rfl, by decide, by decide, rfl, rfl, rfl, fl_X11_264, rfl⟩
theorem fd_X11_268 : aw_FL RX11 268 11 43 747 .int false := ⟨RX11, TX11, 56, rfl, rfl, by decide, by decide, rfl, rfl, rfl, fl_X11_268, rfl⟩
theorem fd_X11_275 : aw_FL RX11 275 11 42 746 .int false := ⟨RX11, TX11, 56, rfl, rfl, by decide, by decide, rfl, rfl, rfl, fl_X11_275, rfl⟩
theorem fd_X11_281 : aw_FL RX11 281 11 21 725 .int false := ⟨RX11, TX11, 56, rfl, rfl, by decide, by decide, rfl, rfl, rfl, fl_X11_281, rfl⟩
theorem fd_X11_286 : aw_FL RX11 286 11 9 713 .int false := ⟨RX11, TX11, 56, rfl, rfl, by decide, by decide, rfl, rfl, rfl, fl_X11_286, rfl⟩
theorem fd_X11_353 : aw_FL RX11 353 11 49 753 .int false := ⟨RX11, TX11, 56, rfl, rfl, by decide, by decide, rfl, rfl, rfl, fl_X11_353, rfl⟩
theorem fd_X11_416 : aw_FL RX11 416 11 50 754 .long false := ⟨RX11, TX11, 56, rfl, rfl, by decide, by decide, rfl, rfl, rfl, fl_X11_416, rfl⟩
theorem fd_X11_435 : aw_FL RX11 435 11 53 757 .int false := ⟨RX11, TX11, 56, rfl, rfl, by decide, by decide, rfl, rfl, rfl, fl_X11_435, rfl⟩
theorem fd_X11_462 : aw_FL RX11 462 11 54 758 .int false := ⟨RX11, TX11, 56, rfl, rfl, by decide, by decide, rfl, rfl, rfl, fl_X11_462, rfl⟩
theorem fd_X2_11 : aw_FL RX2 11 2 0 128 (.array (.object "WideMap$Node")) true := ⟨RX2, TX2, 3, rfl, rfl, by decide, by decide, rfl, rfl, rfl, fl_X2_11, rfl⟩
theorem fd_X2_17 : aw_FL RX2 17 2 1 129 (.array .int) true := ⟨RX2, TX2, 3, rfl, rfl, by decide, by decide, rfl, rfl, rfl, fl_X2_17, rfl⟩
theorem fd_X2_21 : aw_FL RX2 21 2 2 130 .int false := ⟨RX2, TX2, 3, rfl, rfl, by decide, by decide, rfl, rfl, rfl, fl_X2_21, rfl⟩
theorem fd_X3_11 : aw_FL RX3 11 3 0 192 (.array (.object "WideMap$Node")) true := ⟨RX3, TX3, 9, rfl, rfl, by decide, by decide, rfl, rfl, rfl, fl_X3_11, rfl⟩
theorem fd_X3_17 : aw_FL RX3 17 3 1 193 (.array .int) true := ⟨RX3, TX3, 9, rfl, rfl, by decide, by decide, rfl, rfl, rfl, fl_X3_17, rfl⟩
theorem fd_X3_21 : aw_FL RX3 21 3 2 194 (.array .int) true := ⟨RX3, TX3, 9, rfl, rfl, by decide, by decide, rfl, rfl, rfl, fl_X3_21, rfl⟩
theorem fd_X3_24 : aw_FL RX3 24 3 3 195 (.array .boolean) true := ⟨RX3, TX3, 9, rfl, rfl, by decide, by decide, rfl, rfl, rfl, fl_X3_24, rfl⟩
theorem fd_X3_28 : aw_FL RX3 28 3 4 196 (.array .boolean) true := ⟨RX3, TX3, 9, rfl, rfl, by decide, by decide, rfl, rfl, rfl, fl_X3_28, rfl⟩
theorem fd_X3_31 : aw_FL RX3 31 3 5 197 (.array .int) true := ⟨RX3, TX3, 9, rfl, rfl, by decide, by decide, rfl, rfl, rfl, fl_X3_31, rfl⟩
theorem fd_X3_34 : aw_FL RX3 34 3 6 198 .boolean false := ⟨RX3, TX3, 9, rfl, rfl, by decide, by decide, rfl, rfl, rfl, fl_X3_34, rfl⟩
theorem fd_X3_38 : aw_FL RX3 38 3 7 199 .int false := ⟨RX3, TX3, 9, rfl, rfl, by decide, by decide, rfl, rfl, rfl, fl_X3_38, rfl⟩
theorem fd_X3_42 : aw_FL RX3 42 3 8 200 .int false := ⟨RX3, TX3, 9, rfl, rfl, by decide, by decide, rfl, rfl, rfl, fl_X3_42, rfl⟩
theorem fd_X4_9 : aw_FL RX4 9 4 0 256 .int true := ⟨RX4, TX4, 5, rfl, rfl, by decide, by decide, rfl, rfl, rfl, fl_X4_9, rfl⟩
theorem fd_X4_15 : aw_FL RX4 15 4 1 257 (.array .int) true := ⟨RX4, TX4, 5, rfl, rfl, by decide, by decide, rfl, rfl, rfl, fl_X4_15, rfl⟩
theorem fd_X4_19 : aw_FL RX4 19 4 2 258 (.array (.object "WideMap$Node")) true := ⟨RX4, TX4, 5, rfl, rfl, by decide, by decide, rfl, rfl, rfl, fl_X4_19, rfl⟩
theorem fd_X4_30 : aw_FL RX4 30 4 3 259 .int false := ⟨RX4, TX4, 5, rfl, rfl, by decide, by decide, rfl, rfl, rfl, fl_X4_30, rfl⟩
theorem fd_X4_33 : aw_FL RX4 33 4 4 260 .int false := ⟨RX4, TX4, 5, rfl, rfl, by decide, by decide, rfl, rfl, rfl, fl_X4_33, rfl⟩
theorem fd_X5_9 : aw_FL RX5 9 5 0 320 (.array .int) true := ⟨RX5, TX5, 2, rfl, rfl, by decide, by decide, rfl, rfl, rfl, fl_X5_9, rfl⟩
theorem fd_X5_15 : aw_FL RX5 15 5 1 321 .int false := ⟨RX5, TX5, 2, rfl, rfl, by decide, by decide, rfl, rfl, rfl, fl_X5_15, rfl⟩
theorem fd_X6_9 : aw_FL RX6 9 6 0 384 (.object "WideMap$Tape") true := ⟨RX6, TX6, 2, rfl, rfl, by decide, by decide, rfl, rfl, rfl, fl_X6_9, rfl⟩
theorem fd_X6_20 : aw_FL RX6 20 6 1 385 .int false := ⟨RX6, TX6, 2, rfl, rfl, by decide, by decide, rfl, rfl, rfl, fl_X6_20, rfl⟩
theorem fd_X7_9 : aw_FL RX7 9 7 0 448 (.array .int) true := ⟨RX7, TX7, 3, rfl, rfl, by decide, by decide, rfl, rfl, rfl, fl_X7_9, rfl⟩
theorem fd_X7_15 : aw_FL RX7 15 7 1 449 (.array .int) true := ⟨RX7, TX7, 3, rfl, rfl, by decide, by decide, rfl, rfl, rfl, fl_X7_15, rfl⟩
theorem fd_X7_18 : aw_FL RX7 18 7 2 450 .int false := ⟨RX7, TX7, 3, rfl, rfl, by decide, by decide, rfl, rfl, rfl, fl_X7_18, rfl⟩
theorem fd_X8_9 : aw_FL RX8 9 8 0 512 (.array .int) true := ⟨RX8, TX8, 2, rfl, rfl, by decide, by decide, rfl, rfl, rfl, fl_X8_9, rfl⟩
theorem fd_X8_15 : aw_FL RX8 15 8 1 513 .int false := ⟨RX8, TX8, 2, rfl, rfl, by decide, by decide, rfl, rfl, rfl, fl_X8_15, rfl⟩
theorem fd_X9_9 : aw_FL RX9 9 9 0 576 (.array .int) true := ⟨RX9, TX9, 2, rfl, rfl, by decide, by decide, rfl, rfl, rfl, fl_X9_9, rfl⟩
theorem fd_X9_15 : aw_FL RX9 15 9 1 577 .int false := ⟨RX9, TX9, 2, rfl, rfl, by decide, by decide, rfl, rfl, rfl, fl_X9_15, rfl⟩
theorem my_X10_init : aw_Y yX10_init cX10_init 2 (none : Option FieldType) 0 := ⟨co_X10_init, ini_X10, ⟨by decide, by decide, by decide +kernel⟩, by decide⟩
theorem my_X9_init : aw_Y yX9_init cX9_init 1 (none : Option FieldType) 0 := ⟨co_X9_init, ini_X9, ⟨by decide, by decide, by decide +kernel⟩, by decide⟩
theorem my_X6_init : aw_Y yX6_init cX6_init 2 (none : Option FieldType) 1 := ⟨co_X6_init, ini_X6, ⟨by decide, by decide, by decide +kernel⟩, by decide⟩
theorem my_X5_init : aw_Y yX5_init cX5_init 1 (none : Option FieldType) 0 := ⟨co_X5_init, ini_X5, ⟨by decide, by decide, by decide +kernel⟩, by decide⟩
theorem my_X1_init : aw_Y yX1_init cX1_init 1 (none : Option FieldType) 0 := ⟨co_X1_init, ini_X1, ⟨by decide, by decide, by decide +kernel⟩, by decide⟩
theorem my_X3_init : aw_Y yX3_init cX3_init 1 (none : Option FieldType) 0 := ⟨co_X3_init, ini_X3, ⟨by decide, by decide, by decide +kernel⟩, by decide⟩
theorem my_X0_init : aw_Y yX0_init cX0_init 1 (none : Option FieldType) 0 := ⟨co_X0_init, ini_X0, ⟨by decide, by decide, by decide +kernel⟩, by decide⟩
theorem my_X8_init : aw_Y yX8_init cX8_init 1 (none : Option FieldType) 0 := ⟨co_X8_init, ini_X8, ⟨by decide, by decide, by decide +kernel⟩, by decide⟩
theorem my_X7_init : aw_Y yX7_init cX7_init 1 (none : Option FieldType) 0 := ⟨co_X7_init, ini_X7, ⟨by decide, by decide, by decide +kernel⟩, by decide⟩
theorem my_X2_init : aw_Y yX2_init cX2_init 1 (none : Option FieldType) 0 := ⟨co_X2_init, ini_X2, ⟨by decide, by decide, by decide +kernel⟩, by decide⟩
theorem my_X10_feed : aw_Y yX10_feed cX10_feed 7 (some FieldType.int) 5 := ⟨co_X10_feed, ini_X10, ⟨by decide, by decide, by decide +kernel⟩, by decide⟩
theorem my_X9_signsIn : aw_Y yX9_signsIn cX9_signsIn 3 (some FieldType.int) 1 := ⟨co_X9_signsIn, ini_X9, ⟨by decide, by decide, by decide +kernel⟩, by decide⟩
theorem my_X9_size : aw_Y yX9_size cX9_size 1 (some FieldType.int) 0 := ⟨co_X9_size, ini_X9, ⟨by decide, by decide, by decide +kernel⟩, by decide⟩
theorem my_X9_append : aw_Y yX9_append cX9_append 4 (none : Option FieldType) 1 := ⟨co_X9_append, ini_X9, ⟨by decide, by decide, by decide +kernel⟩, by decide⟩
theorem my_X10_end : aw_Y yX10_end cX10_end 2 (some FieldType.boolean) 1 := ⟨co_X10_end, ini_X10, ⟨by decide, by decide, by decide +kernel⟩, by decide⟩
theorem my_X9_shorten : aw_Y yX9_shorten cX9_shorten 2 (some FieldType.boolean) 1 := ⟨co_X9_shorten, ini_X9, ⟨by decide, by decide, by decide +kernel⟩, by decide⟩
theorem my_X10_fault : aw_Y yX10_fault cX10_fault 2 (some FieldType.int) 1 := ⟨co_X10_fault, ini_X10, ⟨by decide, by decide, by decide +kernel⟩, by decide⟩
theorem my_X6_readEntries : aw_Y yX6_readEntries cX6_readEntries 3 (some FieldType.int) 1 := ⟨co_X6_readEntries, ini_X6, ⟨by decide, by decide, by decide +kernel⟩, by decide⟩
theorem my_X7_clear : aw_Y yX7_clear cX7_clear 1 (none : Option FieldType) 0 := ⟨co_X7_clear, ini_X7, ⟨by decide, by decide, by decide +kernel⟩, by decide⟩
theorem my_X6_skipBlanks : aw_Y yX6_skipBlanks cX6_skipBlanks 2 (none : Option FieldType) 0 := ⟨co_X6_skipBlanks, ini_X6, ⟨by decide, by decide, by decide +kernel⟩, by decide⟩
theorem my_X9_byteAt : aw_Y yX9_byteAt cX9_byteAt 2 (some FieldType.int) 1 := ⟨co_X9_byteAt, ini_X9, ⟨by decide, by decide, by decide +kernel⟩, by decide⟩
theorem my_X6_hasEnded : aw_Y yX6_hasEnded cX6_hasEnded 1 (some FieldType.boolean) 0 := ⟨co_X6_hasEnded, ini_X6, ⟨by decide, by decide, by decide +kernel⟩, by decide⟩
theorem my_X6_readEntry : aw_Y yX6_readEntry cX6_readEntry 4 (some FieldType.boolean) 1 := ⟨co_X6_readEntry, ini_X6, ⟨by decide, by decide, by decide +kernel⟩, by decide⟩
theorem my_X6_readNumber : aw_Y yX6_readNumber cX6_readNumber 5 (some FieldType.int) 1 := ⟨co_X6_readNumber, ini_X6, ⟨by decide, by decide, by decide +kernel⟩, by decide⟩
theorem my_X6_isDigit : aw_Y yX6_isDigit cX6_isDigit 1 (some FieldType.boolean) 1 := ⟨co_X6_isDigit, ini_X6, ⟨by decide, by decide, by decide +kernel⟩, by decide⟩
theorem my_X6_passes : aw_Y yX6_passes cX6_passes 2 (some FieldType.boolean) 1 := ⟨co_X6_passes, ini_X6, ⟨by decide, by decide, by decide +kernel⟩, by decide⟩
theorem my_X7_append : aw_Y yX7_append cX7_append 3 (none : Option FieldType) 2 := ⟨co_X7_append, ini_X7, ⟨by decide, by decide, by decide +kernel⟩, by decide⟩
theorem my_X6_readSteps : aw_Y yX6_readSteps cX6_readSteps 3 (some FieldType.int) 1 := ⟨co_X6_readSteps, ini_X6, ⟨by decide, by decide, by decide +kernel⟩, by decide⟩
theorem my_X5_clear : aw_Y yX5_clear cX5_clear 1 (none : Option FieldType) 0 := ⟨co_X5_clear, ini_X5, ⟨by decide, by decide, by decide +kernel⟩, by decide⟩
theorem my_X6_readStep : aw_Y yX6_readStep cX6_readStep 7 (some FieldType.boolean) 1 := ⟨co_X6_readStep, ini_X6, ⟨by decide, by decide, by decide +kernel⟩, by decide⟩
theorem my_X6_readWord : aw_Y yX6_readWord cX6_readWord 4 (some FieldType.int) 0 := ⟨co_X6_readWord, ini_X6, ⟨by decide, by decide, by decide +kernel⟩, by decide⟩
theorem my_X6_wordBeginning : aw_Y yX6_wordBeginning cX6_wordBeginning 1 (some FieldType.int) 1 := ⟨co_X6_wordBeginning, ini_X6, ⟨by decide, by decide, by decide +kernel⟩, by decide⟩
theorem my_X6_lettersOf : aw_Y yX6_lettersOf cX6_lettersOf 1 (some (FieldType.object "java/lang/String")) 1 := ⟨co_X6_lettersOf, ini_X6, ⟨by decide, by decide, by decide +kernel⟩, by decide⟩
theorem my_X5_append : aw_Y yX5_append cX5_append 3 (none : Option FieldType) 1 := ⟨co_X5_append, ini_X5, ⟨by decide, by decide, by decide +kernel⟩, by decide⟩
theorem my_X5_setNumber : aw_Y yX5_setNumber cX5_setNumber 3 (none : Option FieldType) 2 := ⟨co_X5_setNumber, ini_X5, ⟨by decide, by decide, by decide +kernel⟩, by decide⟩
theorem my_X10_text : aw_Y yX10_text cX10_text 2 (some FieldType.int) 1 := ⟨co_X10_text, ini_X10, ⟨by decide, by decide, by decide +kernel⟩, by decide⟩
theorem my_X10_mapTold : aw_Y yX10_mapTold cX10_mapTold 4 (some FieldType.int) 0 := ⟨co_X10_mapTold, ini_X10, ⟨by decide, by decide, by decide +kernel⟩, by decide⟩
theorem my_X3_hasRoom : aw_Y yX3_hasRoom cX3_hasRoom 1 (some FieldType.boolean) 0 := ⟨co_X3_hasRoom, ini_X3, ⟨by decide, by decide, by decide +kernel⟩, by decide⟩
theorem my_X10_refused : aw_Y yX10_refused cX10_refused 2 (some FieldType.int) 1 := ⟨co_X10_refused, ini_X10, ⟨by decide, by decide, by decide +kernel⟩, by decide⟩
theorem my_X1_newToken : aw_Y yX1_newToken cX1_newToken 1 (some FieldType.int) 0 := ⟨co_X1_newToken, ini_X1, ⟨by decide, by decide, by decide +kernel⟩, by decide⟩
theorem my_X1_newNode : aw_Y yX1_newNode cX1_newNode 3 (some (FieldType.object "WideMap$Node")) 2 := ⟨co_X1_newNode, ini_X1, ⟨by decide, by decide, by decide +kernel⟩, by decide⟩
theorem my_X4_init : aw_Y yX4_init cX4_init 3 (none : Option FieldType) 2 := ⟨co_X4_init, ini_X4, ⟨by decide, by decide, by decide +kernel⟩, by decide⟩
theorem my_X7_size : aw_Y yX7_size cX7_size 1 (some FieldType.int) 0 := ⟨co_X7_size, ini_X7, ⟨by decide, by decide, by decide +kernel⟩, by decide⟩
theorem my_X7_keyAt : aw_Y yX7_keyAt cX7_keyAt 2 (some FieldType.int) 1 := ⟨co_X7_keyAt, ini_X7, ⟨by decide, by decide, by decide +kernel⟩, by decide⟩
theorem my_X7_valueAt : aw_Y yX7_valueAt cX7_valueAt 2 (some FieldType.int) 1 := ⟨co_X7_valueAt, ini_X7, ⟨by decide, by decide, by decide +kernel⟩, by decide⟩
theorem my_X1_put : aw_Y yX1_put cX1_put 8 (some (FieldType.object "WideMap$Node")) 4 := ⟨co_X1_put, ini_X1, ⟨by decide, by decide, by decide +kernel⟩, by decide⟩
theorem my_X10_valueIn : aw_Y yX10_valueIn cX10_valueIn 4 (some FieldType.int) 2 := ⟨co_X10_valueIn, ini_X10, ⟨by decide, by decide, by decide +kernel⟩, by decide⟩
theorem my_X4_isLeaf : aw_Y yX4_isLeaf cX4_isLeaf 1 (some FieldType.boolean) 0 := ⟨co_X4_isLeaf, ini_X4, ⟨by decide, by decide, by decide +kernel⟩, by decide⟩
theorem my_X4_placeOfKid : aw_Y yX4_placeOfKid cX4_placeOfKid 5 (some FieldType.int) 1 := ⟨co_X4_placeOfKid, ini_X4, ⟨by decide, by decide, by decide +kernel⟩, by decide⟩
theorem my_X4_kidAt : aw_Y yX4_kidAt cX4_kidAt 2 (some (FieldType.object "WideMap$Node")) 1 := ⟨co_X4_kidAt, ini_X4, ⟨by decide, by decide, by decide +kernel⟩, by decide⟩
theorem my_X4_lowestKey : aw_Y yX4_lowestKey cX4_lowestKey 3 (some FieldType.int) 0 := ⟨co_X4_lowestKey, ini_X4, ⟨by decide, by decide, by decide +kernel⟩, by decide⟩
theorem my_X4_keyAt : aw_Y yX4_keyAt cX4_keyAt 2 (some FieldType.int) 1 := ⟨co_X4_keyAt, ini_X4, ⟨by decide, by decide, by decide +kernel⟩, by decide⟩
theorem my_X4_valueOf : aw_Y yX4_valueOf cX4_valueOf 3 (some FieldType.int) 1 := ⟨co_X4_valueOf, ini_X4, ⟨by decide, by decide, by decide +kernel⟩, by decide⟩
theorem my_X4_placeOfKey : aw_Y yX4_placeOfKey cX4_placeOfKey 3 (some FieldType.int) 1 := ⟨co_X4_placeOfKey, ini_X4, ⟨by decide, by decide, by decide +kernel⟩, by decide⟩
theorem my_X4_valueAt : aw_Y yX4_valueAt cX4_valueAt 2 (some FieldType.int) 1 := ⟨co_X4_valueAt, ini_X4, ⟨by decide, by decide, by decide +kernel⟩, by decide⟩
theorem my_X1_edited : aw_Y yX1_edited cX1_edited 3 (some (FieldType.object "WideMap$Node")) 2 := ⟨co_X1_edited, ini_X1, ⟨by decide, by decide, by decide +kernel⟩, by decide⟩
theorem my_X4_token : aw_Y yX4_token cX4_token 1 (some FieldType.int) 0 := ⟨co_X4_token, ini_X4, ⟨by decide, by decide, by decide +kernel⟩, by decide⟩
theorem my_X4_init_ : aw_Y yX4_init_ cX4_init_ 3 (none : Option FieldType) 2 := ⟨co_X4_init_, ini_X4, ⟨by decide, by decide, by decide +kernel⟩, by decide⟩
theorem my_X1_putBelow : aw_Y yX1_putBelow cX1_putBelow 9 (some (FieldType.object "WideMap$Node")) 6 := ⟨co_X1_putBelow, ini_X1, ⟨by decide, by decide, by decide +kernel⟩, by decide⟩
theorem my_X4_setEntry : aw_Y yX4_setEntry cX4_setEntry 4 (none : Option FieldType) 2 := ⟨co_X4_setEntry, ini_X4, ⟨by decide, by decide, by decide +kernel⟩, by decide⟩
theorem my_X4_openSlot : aw_Y yX4_openSlot cX4_openSlot 3 (none : Option FieldType) 1 := ⟨co_X4_openSlot, ini_X4, ⟨by decide, by decide, by decide +kernel⟩, by decide⟩
theorem my_X4_copySlot : aw_Y yX4_copySlot cX4_copySlot 4 (none : Option FieldType) 3 := ⟨co_X4_copySlot, ini_X4, ⟨by decide, by decide, by decide +kernel⟩, by decide⟩
theorem my_X1_editedKid : aw_Y yX1_editedKid cX1_editedKid 6 (some (FieldType.object "WideMap$Node")) 3 := ⟨co_X1_editedKid, ini_X1, ⟨by decide, by decide, by decide +kernel⟩, by decide⟩
theorem my_X4_setKid : aw_Y yX4_setKid cX4_setKid 3 (none : Option FieldType) 2 := ⟨co_X4_setKid, ini_X4, ⟨by decide, by decide, by decide +kernel⟩, by decide⟩
theorem my_X4_insertKid : aw_Y yX4_insertKid cX4_insertKid 3 (none : Option FieldType) 2 := ⟨co_X4_insertKid, ini_X4, ⟨by decide, by decide, by decide +kernel⟩, by decide⟩
theorem my_X4_size : aw_Y yX4_size cX4_size 1 (some FieldType.int) 0 := ⟨co_X4_size, ini_X4, ⟨by decide, by decide, by decide +kernel⟩, by decide⟩
theorem my_X1_parted : aw_Y yX1_parted cX1_parted 4 (some (FieldType.object "WideMap$Node")) 2 := ⟨co_X1_parted, ini_X1, ⟨by decide, by decide, by decide +kernel⟩, by decide⟩
theorem my_X1_least : aw_Y yX1_least cX1_least 1 (some FieldType.int) 0 := ⟨co_X1_least, ini_X1, ⟨by decide, by decide, by decide +kernel⟩, by decide⟩
theorem my_X4_moveLast : aw_Y yX4_moveLast cX4_moveLast 5 (none : Option FieldType) 2 := ⟨co_X4_moveLast, ini_X4, ⟨by decide, by decide, by decide +kernel⟩, by decide⟩
theorem my_X4_append : aw_Y yX4_append cX4_append 3 (none : Option FieldType) 2 := ⟨co_X4_append, ini_X4, ⟨by decide, by decide, by decide +kernel⟩, by decide⟩
theorem my_X3_keep : aw_Y yX3_keep cX3_keep 4 (some FieldType.int) 3 := ⟨co_X3_keep, ini_X3, ⟨by decide, by decide, by decide +kernel⟩, by decide⟩
theorem my_X10_programTold : aw_Y yX10_programTold cX10_programTold 1 (some FieldType.int) 0 := ⟨co_X10_programTold, ini_X10, ⟨by decide, by decide, by decide +kernel⟩, by decide⟩
theorem my_X10_wide : aw_Y yX10_wide cX10_wide 2 (some FieldType.int) 1 := ⟨co_X10_wide, ini_X10, ⟨by decide, by decide, by decide +kernel⟩, by decide⟩
theorem my_X1_open : aw_Y yX1_open cX1_open 2 (none : Option FieldType) 1 := ⟨co_X1_open, ini_X1, ⟨by decide, by decide, by decide +kernel⟩, by decide⟩
theorem my_X3_open : aw_Y yX3_open cX3_open 2 (none : Option FieldType) 0 := ⟨co_X3_open, ini_X3, ⟨by decide, by decide, by decide +kernel⟩, by decide⟩
theorem my_X10_closeBuilders : aw_Y yX10_closeBuilders cX10_closeBuilders 3 (none : Option FieldType) 0 := ⟨co_X10_closeBuilders, ini_X10, ⟨by decide, by decide, by decide +kernel⟩, by decide⟩
theorem my_X10_builderAt : aw_Y yX10_builderAt cX10_builderAt 2 (some (FieldType.object "WideMap$Builder")) 1 := ⟨co_X10_builderAt, ini_X10, ⟨by decide, by decide, by decide +kernel⟩, by decide⟩
theorem my_X0_close : aw_Y yX0_close cX0_close 1 (none : Option FieldType) 0 := ⟨co_X0_close, ini_X0, ⟨by decide, by decide, by decide +kernel⟩, by decide⟩
theorem my_X10_find : aw_Y yX10_find cX10_find 3 (some FieldType.int) 2 := ⟨co_X10_find, ini_X10, ⟨by decide, by decide, by decide +kernel⟩, by decide⟩
theorem my_X3_heldRoot : aw_Y yX3_heldRoot cX3_heldRoot 2 (some (FieldType.object "WideMap$Node")) 1 := ⟨co_X3_heldRoot, ini_X3, ⟨by decide, by decide, by decide +kernel⟩, by decide⟩
theorem my_X10_about : aw_Y yX10_about cX10_about 4 (some FieldType.int) 2 := ⟨co_X10_about, ini_X10, ⟨by decide, by decide, by decide +kernel⟩, by decide⟩
theorem my_X7_fill : aw_Y yX7_fill cX7_fill 2 (none : Option FieldType) 1 := ⟨co_X7_fill, ini_X7, ⟨by decide, by decide, by decide +kernel⟩, by decide⟩
theorem my_X7_fillUnmarked : aw_Y yX7_fillUnmarked cX7_fillUnmarked 3 (none : Option FieldType) 2 := ⟨co_X7_fillUnmarked, ini_X7, ⟨by decide, by decide, by decide +kernel⟩, by decide⟩
theorem my_X7_collect : aw_Y yX7_collect cX7_collect 5 (none : Option FieldType) 4 := ⟨co_X7_collect, ini_X7, ⟨by decide, by decide, by decide +kernel⟩, by decide⟩
theorem my_X4_bears : aw_Y yX4_bears cX4_bears 2 (some FieldType.boolean) 1 := ⟨co_X4_bears, ini_X4, ⟨by decide, by decide, by decide +kernel⟩, by decide⟩
theorem my_X2_fill : aw_Y yX2_fill cX2_fill 2 (none : Option FieldType) 1 := ⟨co_X2_fill, ini_X2, ⟨by decide, by decide, by decide +kernel⟩, by decide⟩
theorem my_X2_list : aw_Y yX2_list cX2_list 4 (none : Option FieldType) 3 := ⟨co_X2_list, ini_X2, ⟨by decide, by decide, by decide +kernel⟩, by decide⟩
theorem my_X2_append : aw_Y yX2_append cX2_append 3 (none : Option FieldType) 2 := ⟨co_X2_append, ini_X2, ⟨by decide, by decide, by decide +kernel⟩, by decide⟩
theorem my_X2_levels : aw_Y yX2_levels cX2_levels 1 (some FieldType.int) 0 := ⟨co_X2_levels, ini_X2, ⟨by decide, by decide, by decide +kernel⟩, by decide⟩
theorem my_X2_depthAt : aw_Y yX2_depthAt cX2_depthAt 2 (some FieldType.int) 1 := ⟨co_X2_depthAt, ini_X2, ⟨by decide, by decide, by decide +kernel⟩, by decide⟩
theorem my_X2_size : aw_Y yX2_size cX2_size 1 (some FieldType.int) 0 := ⟨co_X2_size, ini_X2, ⟨by decide, by decide, by decide +kernel⟩, by decide⟩
theorem my_X2_leaves : aw_Y yX2_leaves cX2_leaves 4 (some FieldType.int) 0 := ⟨co_X2_leaves, ini_X2, ⟨by decide, by decide, by decide +kernel⟩, by decide⟩
theorem my_X2_nodeAt : aw_Y yX2_nodeAt cX2_nodeAt 2 (some (FieldType.object "WideMap$Node")) 1 := ⟨co_X2_nodeAt, ini_X2, ⟨by decide, by decide, by decide +kernel⟩, by decide⟩
theorem my_X7_sum : aw_Y yX7_sum cX7_sum 5 (some FieldType.int) 2 := ⟨co_X7_sum, ini_X7, ⟨by decide, by decide, by decide +kernel⟩, by decide⟩
theorem my_X3_oneOf : aw_Y yX3_oneOf cX3_oneOf 2 (some FieldType.int) 1 := ⟨co_X3_oneOf, ini_X3, ⟨by decide, by decide, by decide +kernel⟩, by decide⟩
theorem my_X3_twoOf : aw_Y yX3_twoOf cX3_twoOf 2 (some FieldType.int) 1 := ⟨co_X3_twoOf, ini_X3, ⟨by decide, by decide, by decide +kernel⟩, by decide⟩
theorem my_X10_below : aw_Y yX10_below cX10_below 4 (some FieldType.int) 2 := ⟨co_X10_below, ini_X10, ⟨by decide, by decide, by decide +kernel⟩, by decide⟩
theorem my_X7_placeOf : aw_Y yX7_placeOf cX7_placeOf 6 (some FieldType.int) 1 := ⟨co_X7_placeOf, ini_X7, ⟨by decide, by decide, by decide +kernel⟩, by decide⟩
theorem my_X10_near : aw_Y yX10_near cX10_near 7 (some FieldType.int) 3 := ⟨co_X10_near, ini_X10, ⟨by decide, by decide, by decide +kernel⟩, by decide⟩
theorem my_X7_holdsAt : aw_Y yX7_holdsAt cX7_holdsAt 3 (some FieldType.boolean) 2 := ⟨co_X7_holdsAt, ini_X7, ⟨by decide, by decide, by decide +kernel⟩, by decide⟩
theorem my_X10_total : aw_Y yX10_total cX10_total 5 (some FieldType.int) 3 := ⟨co_X10_total, ini_X10, ⟨by decide, by decide, by decide +kernel⟩, by decide⟩
theorem my_X10_node : aw_Y yX10_node cX10_node 5 (some FieldType.int) 3 := ⟨co_X10_node, ini_X10, ⟨by decide, by decide, by decide +kernel⟩, by decide⟩
theorem my_X10_mapsWith : aw_Y yX10_mapsWith cX10_mapsWith 4 (some FieldType.int) 1 := ⟨co_X10_mapsWith, ini_X10, ⟨by decide, by decide, by decide +kernel⟩, by decide⟩
theorem my_X3_given : aw_Y yX3_given cX3_given 1 (some FieldType.int) 0 := ⟨co_X3_given, ini_X3, ⟨by decide, by decide, by decide +kernel⟩, by decide⟩
theorem my_X2_has : aw_Y yX2_has cX2_has 3 (some FieldType.boolean) 1 := ⟨co_X2_has, ini_X2, ⟨by decide, by decide, by decide +kernel⟩, by decide⟩
theorem my_X10_keysIn : aw_Y yX10_keysIn cX10_keysIn 4 (some FieldType.int) 2 := ⟨co_X10_keysIn, ini_X10, ⟨by decide, by decide, by decide +kernel⟩, by decide⟩
theorem my_X10_having : aw_Y yX10_having cX10_having 5 (some FieldType.int) 3 := ⟨co_X10_having, ini_X10, ⟨by decide, by decide, by decide +kernel⟩, by decide⟩
theorem my_X10_isKey : aw_Y yX10_isKey cX10_isKey 1 (some FieldType.boolean) 1 := ⟨co_X10_isKey, ini_X10, ⟨by decide, by decide, by decide +kernel⟩, by decide⟩
theorem my_X10_isValue : aw_Y yX10_isValue cX10_isValue 1 (some FieldType.boolean) 1 := ⟨co_X10_isValue, ini_X10, ⟨by decide, by decide, by decide +kernel⟩, by decide⟩
theorem my_X10_fits : aw_Y yX10_fits cX10_fits 2 (some FieldType.boolean) 2 := ⟨co_X10_fits, ini_X10, ⟨by decide, by decide, by decide +kernel⟩, by decide⟩
theorem my_X10_lacking : aw_Y yX10_lacking cX10_lacking 4 (some FieldType.int) 2 := ⟨co_X10_lacking, ini_X10, ⟨by decide, by decide, by decide +kernel⟩, by decide⟩
theorem my_X1_takeOut : aw_Y yX1_takeOut cX1_takeOut 5 (some (FieldType.object "WideMap$Node")) 3 := ⟨co_X1_takeOut, ini_X1, ⟨by decide, by decide, by decide +kernel⟩, by decide⟩
theorem my_X1_takeBelow : aw_Y yX1_takeBelow cX1_takeBelow 7 (none : Option FieldType) 5 := ⟨co_X1_takeBelow, ini_X1, ⟨by decide, by decide, by decide +kernel⟩, by decide⟩
theorem my_X4_removeEntry : aw_Y yX4_removeEntry cX4_removeEntry 3 (none : Option FieldType) 1 := ⟨co_X4_removeEntry, ini_X4, ⟨by decide, by decide, by decide +kernel⟩, by decide⟩
theorem my_X4_closeSlot : aw_Y yX4_closeSlot cX4_closeSlot 3 (none : Option FieldType) 1 := ⟨co_X4_closeSlot, ini_X4, ⟨by decide, by decide, by decide +kernel⟩, by decide⟩
theorem my_X1_refill : aw_Y yX1_refill cX1_refill 8 (none : Option FieldType) 4 := ⟨co_X1_refill, ini_X1, ⟨by decide, by decide, by decide +kernel⟩, by decide⟩
theorem my_X4_moveLastToFirst : aw_Y yX4_moveLastToFirst cX4_moveLastToFirst 2 (none : Option FieldType) 1 := ⟨co_X4_moveLastToFirst, ini_X4, ⟨by decide, by decide, by decide +kernel⟩, by decide⟩
theorem my_X4_moveFirstToLast : aw_Y yX4_moveFirstToLast cX4_moveFirstToLast 2 (none : Option FieldType) 1 := ⟨co_X4_moveFirstToLast, ini_X4, ⟨by decide, by decide, by decide +kernel⟩, by decide⟩
theorem my_X4_appendAll : aw_Y yX4_appendAll cX4_appendAll 3 (none : Option FieldType) 1 := ⟨co_X4_appendAll, ini_X4, ⟨by decide, by decide, by decide +kernel⟩, by decide⟩
theorem my_X4_removeKid : aw_Y yX4_removeKid cX4_removeKid 2 (none : Option FieldType) 1 := ⟨co_X4_removeKid, ini_X4, ⟨by decide, by decide, by decide +kernel⟩, by decide⟩
theorem my_X10_merge : aw_Y yX10_merge cX10_merge 6 (some FieldType.int) 3 := ⟨co_X10_merge, ini_X10, ⟨by decide, by decide, by decide +kernel⟩, by decide⟩
theorem my_X10_marked : aw_Y yX10_marked cX10_marked 2 (some FieldType.int) 1 := ⟨co_X10_marked, ini_X10, ⟨by decide, by decide, by decide +kernel⟩, by decide⟩
theorem my_X2_mark : aw_Y yX2_mark cX2_mark 5 (some FieldType.int) 1 := ⟨co_X2_mark, ini_X2, ⟨by decide, by decide, by decide +kernel⟩, by decide⟩
theorem my_X4_bear : aw_Y yX4_bear cX4_bear 2 (none : Option FieldType) 1 := ⟨co_X4_bear, ini_X4, ⟨by decide, by decide, by decide +kernel⟩, by decide⟩
theorem my_X7_sizeWith : aw_Y yX7_sizeWith cX7_sizeWith 4 (some FieldType.int) 1 := ⟨co_X7_sizeWith, ini_X7, ⟨by decide, by decide, by decide +kernel⟩, by decide⟩
theorem my_X7_valueOf : aw_Y yX7_valueOf cX7_valueOf 3 (some FieldType.int) 1 := ⟨co_X7_valueOf, ini_X7, ⟨by decide, by decide, by decide +kernel⟩, by decide⟩
theorem my_X10_mergedRoot : aw_Y yX10_mergedRoot cX10_mergedRoot 8 (some (FieldType.object "WideMap$Node")) 2 := ⟨co_X10_mergedRoot, ini_X10, ⟨by decide, by decide, by decide +kernel⟩, by decide⟩
theorem my_X10_ruled : aw_Y yX10_ruled cX10_ruled 3 (some FieldType.int) 3 := ⟨co_X10_ruled, ini_X10, ⟨by decide, by decide, by decide +kernel⟩, by decide⟩
theorem my_X10_heldWithin : aw_Y yX10_heldWithin cX10_heldWithin 1 (some FieldType.int) 1 := ⟨co_X10_heldWithin, ini_X10, ⟨by decide, by decide, by decide +kernel⟩, by decide⟩
theorem my_X10_three : aw_Y yX10_three cX10_three 5 (some FieldType.int) 4 := ⟨co_X10_three, ini_X10, ⟨by decide, by decide, by decide +kernel⟩, by decide⟩
theorem my_X10_fillThree : aw_Y yX10_fillThree cX10_fillThree 5 (some FieldType.boolean) 3 := ⟨co_X10_fillThree, ini_X10, ⟨by decide, by decide, by decide +kernel⟩, by decide⟩
theorem my_X10_fillTwo : aw_Y yX10_fillTwo cX10_fillTwo 5 (some FieldType.boolean) 2 := ⟨co_X10_fillTwo, ini_X10, ⟨by decide, by decide, by decide +kernel⟩, by decide⟩
theorem my_X10_sizeOfThree : aw_Y yX10_sizeOfThree cX10_sizeOfThree 7 (some FieldType.int) 1 := ⟨co_X10_sizeOfThree, ini_X10, ⟨by decide, by decide, by decide +kernel⟩, by decide⟩
theorem my_X10_lowestAbove : aw_Y yX10_lowestAbove cX10_lowestAbove 5 (some FieldType.int) 3 := ⟨co_X10_lowestAbove, ini_X10, ⟨by decide, by decide, by decide +kernel⟩, by decide⟩
theorem my_X10_valueOfThree : aw_Y yX10_valueOfThree cX10_valueOfThree 3 (some FieldType.int) 2 := ⟨co_X10_valueOfThree, ini_X10, ⟨by decide, by decide, by decide +kernel⟩, by decide⟩
theorem my_X10_isAsked : aw_Y yX10_isAsked cX10_isAsked 3 (some FieldType.boolean) 1 := ⟨co_X10_isAsked, ini_X10, ⟨by decide, by decide, by decide +kernel⟩, by decide⟩
theorem my_X10_isConflict : aw_Y yX10_isConflict cX10_isConflict 2 (some FieldType.boolean) 1 := ⟨co_X10_isConflict, ini_X10, ⟨by decide, by decide, by decide +kernel⟩, by decide⟩
theorem my_X10_rootOfThree : aw_Y yX10_rootOfThree cX10_rootOfThree 8 (some (FieldType.object "WideMap$Node")) 2 := ⟨co_X10_rootOfThree, ini_X10, ⟨by decide, by decide, by decide +kernel⟩, by decide⟩
theorem my_X10_conflicts : aw_Y yX10_conflicts cX10_conflicts 7 (some FieldType.int) 3 := ⟨co_X10_conflicts, ini_X10, ⟨by decide, by decide, by decide +kernel⟩, by decide⟩
theorem my_X10_slice : aw_Y yX10_slice cX10_slice 8 (some FieldType.int) 3 := ⟨co_X10_slice, ini_X10, ⟨by decide, by decide, by decide +kernel⟩, by decide⟩
theorem my_X10_isRange : aw_Y yX10_isRange cX10_isRange 2 (some FieldType.boolean) 2 := ⟨co_X10_isRange, ini_X10, ⟨by decide, by decide, by decide +kernel⟩, by decide⟩
theorem my_X10_drop : aw_Y yX10_drop cX10_drop 2 (some FieldType.int) 1 := ⟨co_X10_drop, ini_X10, ⟨by decide, by decide, by decide +kernel⟩, by decide⟩
theorem my_X3_release : aw_Y yX3_release cX3_release 2 (none : Option FieldType) 1 := ⟨co_X3_release, ini_X3, ⟨by decide, by decide, by decide +kernel⟩, by decide⟩
theorem my_X3_held : aw_Y yX3_held cX3_held 1 (some FieldType.int) 0 := ⟨co_X3_held, ini_X3, ⟨by decide, by decide, by decide +kernel⟩, by decide⟩
theorem my_X10_build : aw_Y yX10_build cX10_build 5 (some FieldType.int) 2 := ⟨co_X10_build, ini_X10, ⟨by decide, by decide, by decide +kernel⟩, by decide⟩
theorem my_X0_open : aw_Y yX0_open cX0_open 4 (none : Option FieldType) 3 := ⟨co_X0_open, ini_X0, ⟨by decide, by decide, by decide +kernel⟩, by decide⟩
theorem my_X10_lay : aw_Y yX10_lay cX10_lay 7 (some FieldType.int) 3 := ⟨co_X10_lay, ini_X10, ⟨by decide, by decide, by decide +kernel⟩, by decide⟩
theorem my_X10_objection : aw_Y yX10_objection cX10_objection 2 (some FieldType.int) 2 := ⟨co_X10_objection, ini_X10, ⟨by decide, by decide, by decide +kernel⟩, by decide⟩
theorem my_X0_isStale : aw_Y yX0_isStale cX0_isStale 1 (some FieldType.boolean) 0 := ⟨co_X0_isStale, ini_X0, ⟨by decide, by decide, by decide +kernel⟩, by decide⟩
theorem my_X1_made : aw_Y yX1_made cX1_made 1 (some FieldType.int) 0 := ⟨co_X1_made, ini_X1, ⟨by decide, by decide, by decide +kernel⟩, by decide⟩
theorem my_X10_isPut : aw_Y yX10_isPut cX10_isPut 4 (some FieldType.boolean) 3 := ⟨co_X10_isPut, ini_X10, ⟨by decide, by decide, by decide +kernel⟩, by decide⟩
theorem my_X0_root : aw_Y yX0_root cX0_root 1 (some (FieldType.object "WideMap$Node")) 0 := ⟨co_X0_root, ini_X0, ⟨by decide, by decide, by decide +kernel⟩, by decide⟩
theorem my_X0_token : aw_Y yX0_token cX0_token 1 (some FieldType.int) 0 := ⟨co_X0_token, ini_X0, ⟨by decide, by decide, by decide +kernel⟩, by decide⟩
theorem my_X0_change : aw_Y yX0_change cX0_change 2 (none : Option FieldType) 1 := ⟨co_X0_change, ini_X0, ⟨by decide, by decide, by decide +kernel⟩, by decide⟩
theorem my_X10_take : aw_Y yX10_take cX10_take 6 (some FieldType.int) 2 := ⟨co_X10_take, ini_X10, ⟨by decide, by decide, by decide +kernel⟩, by decide⟩
theorem my_X10_cutRange : aw_Y yX10_cutRange cX10_cutRange 6 (none : Option FieldType) 3 := ⟨co_X10_cutRange, ini_X10, ⟨by decide, by decide, by decide +kernel⟩, by decide⟩
theorem my_X10_add : aw_Y yX10_add cX10_add 7 (some FieldType.int) 3 := ⟨co_X10_add, ini_X10, ⟨by decide, by decide, by decide +kernel⟩, by decide⟩
theorem my_X10_isAdded : aw_Y yX10_isAdded cX10_isAdded 6 (some FieldType.boolean) 3 := ⟨co_X10_isAdded, ini_X10, ⟨by decide, by decide, by decide +kernel⟩, by decide⟩
theorem my_X10_cut : aw_Y yX10_cut cX10_cut 7 (some FieldType.int) 3 := ⟨co_X10_cut, ini_X10, ⟨by decide, by decide, by decide +kernel⟩, by decide⟩
theorem my_X10_inc : aw_Y yX10_inc cX10_inc 8 (some FieldType.int) 4 := ⟨co_X10_inc, ini_X10, ⟨by decide, by decide, by decide +kernel⟩, by decide⟩
theorem my_X10_raiseRange : aw_Y yX10_raiseRange cX10_raiseRange 8 (none : Option FieldType) 4 := ⟨co_X10_raiseRange, ini_X10, ⟨by decide, by decide, by decide +kernel⟩, by decide⟩
theorem my_X10_snap : aw_Y yX10_snap cX10_snap 5 (some FieldType.int) 1 := ⟨co_X10_snap, ini_X10, ⟨by decide, by decide, by decide +kernel⟩, by decide⟩
theorem my_X10_snapped : aw_Y yX10_snapped cX10_snapped 3 (some FieldType.int) 1 := ⟨co_X10_snapped, ini_X10, ⟨by decide, by decide, by decide +kernel⟩, by decide⟩
theorem my_X0_from : aw_Y yX0_from cX0_from 1 (some FieldType.int) 0 := ⟨co_X0_from, ini_X0, ⟨by decide, by decide, by decide +kernel⟩, by decide⟩
theorem my_X10_freeze : aw_Y yX10_freeze cX10_freeze 5 (some FieldType.int) 1 := ⟨co_X10_freeze, ini_X10, ⟨by decide, by decide, by decide +kernel⟩, by decide⟩
theorem my_X10_peek : aw_Y yX10_peek cX10_peek 4 (some FieldType.int) 2 := ⟨co_X10_peek, ini_X10, ⟨by decide, by decide, by decide +kernel⟩, by decide⟩
theorem my_X10_builder : aw_Y yX10_builder cX10_builder 4 (some FieldType.int) 2 := ⟨co_X10_builder, ini_X10, ⟨by decide, by decide, by decide +kernel⟩, by decide⟩
theorem my_X2_sizeOf : aw_Y yX2_sizeOf cX2_sizeOf 5 (some FieldType.int) 1 := ⟨co_X2_sizeOf, ini_X2, ⟨by decide, by decide, by decide +kernel⟩, by decide⟩
theorem my_X10_draws : aw_Y yX10_draws cX10_draws 14 (some FieldType.int) 3 := ⟨co_X10_draws, ini_X10, ⟨by decide, by decide, by decide +kernel⟩, by decide⟩
theorem my_X10_stirred : aw_Y yX10_stirred cX10_stirred 2 (some FieldType.long) 1 := ⟨co_X10_stirred, ini_X10, ⟨by decide, by decide, by decide +kernel⟩, by decide⟩
theorem my_X10_drawn : aw_Y yX10_drawn cX10_drawn 3 (some FieldType.int) 2 := ⟨co_X10_drawn, ini_X10, ⟨by decide, by decide, by decide +kernel⟩, by decide⟩
theorem my_X10_step : aw_Y yX10_step cX10_step 5 (some FieldType.int) 3 := ⟨co_X10_step, ini_X10, ⟨by decide, by decide, by decide +kernel⟩, by decide⟩
theorem my_X10_programAt : aw_Y yX10_programAt cX10_programAt 2 (some (FieldType.object "WideMap$Program")) 1 := ⟨co_X10_programAt, ini_X10, ⟨by decide, by decide, by decide +kernel⟩, by decide⟩
theorem my_X5_cell : aw_Y yX5_cell cX5_cell 3 (some FieldType.int) 2 := ⟨co_X5_cell, ini_X5, ⟨by decide, by decide, by decide +kernel⟩, by decide⟩
theorem my_X10_run : aw_Y yX10_run cX10_run 10 (some FieldType.int) 2 := ⟨co_X10_run, ini_X10, ⟨by decide, by decide, by decide +kernel⟩, by decide⟩
theorem my_X5_size : aw_Y yX5_size cX5_size 1 (some FieldType.int) 0 := ⟨co_X5_size, ini_X5, ⟨by decide, by decide, by decide +kernel⟩, by decide⟩
theorem my_X10_shared : aw_Y yX10_shared cX10_shared 5 (some FieldType.int) 2 := ⟨co_X10_shared, ini_X10, ⟨by decide, by decide, by decide +kernel⟩, by decide⟩
theorem my_X10_sharedNodes : aw_Y yX10_sharedNodes cX10_sharedNodes 4 (some FieldType.int) 2 := ⟨co_X10_sharedNodes, ini_X10, ⟨by decide, by decide, by decide +kernel⟩, by decide⟩
theorem my_X10_looked : aw_Y yX10_looked cX10_looked 7 (some FieldType.int) 2 := ⟨co_X10_looked, ini_X10, ⟨by decide, by decide, by decide +kernel⟩, by decide⟩
theorem my_X10_difference : aw_Y yX10_difference cX10_difference 8 (some FieldType.int) 4 := ⟨co_X10_difference, ini_X10, ⟨by decide, by decide, by decide +kernel⟩, by decide⟩
theorem my_X10_partOfDifference : aw_Y yX10_partOfDifference cX10_partOfDifference 3 (some FieldType.int) 2 := ⟨co_X10_partOfDifference, ini_X10, ⟨by decide, by decide, by decide +kernel⟩, by decide⟩
theorem my_X10_alike : aw_Y yX10_alike cX10_alike 4 (some FieldType.int) 3 := ⟨co_X10_alike, ini_X10, ⟨by decide, by decide, by decide +kernel⟩, by decide⟩
theorem my_X7_isSameAs : aw_Y yX7_isSameAs cX7_isSameAs 3 (some FieldType.boolean) 1 := ⟨co_X7_isSameAs, ini_X7, ⟨by decide, by decide, by decide +kernel⟩, by decide⟩
theorem my_X8_write : aw_Y yX8_write cX8_write 2 (none : Option FieldType) 1 := ⟨co_X8_write, ini_X8, ⟨by decide, by decide, by decide +kernel⟩, by decide⟩
theorem my_X8_writeNode : aw_Y yX8_writeNode cX8_writeNode 4 (none : Option FieldType) 3 := ⟨co_X8_writeNode, ini_X8, ⟨by decide, by decide, by decide +kernel⟩, by decide⟩
theorem my_X8_writeLeaf : aw_Y yX8_writeLeaf cX8_writeLeaf 3 (none : Option FieldType) 1 := ⟨co_X8_writeLeaf, ini_X8, ⟨by decide, by decide, by decide +kernel⟩, by decide⟩
theorem my_X8_append : aw_Y yX8_append cX8_append 2 (none : Option FieldType) 1 := ⟨co_X8_append, ini_X8, ⟨by decide, by decide, by decide +kernel⟩, by decide⟩
theorem my_X8_writeNumber : aw_Y yX8_writeNumber cX8_writeNumber 3 (none : Option FieldType) 1 := ⟨co_X8_writeNumber, ini_X8, ⟨by decide, by decide, by decide +kernel⟩, by decide⟩
theorem my_X8_isSameAs : aw_Y yX8_isSameAs cX8_isSameAs 3 (some FieldType.boolean) 1 := ⟨co_X8_isSameAs, ini_X8, ⟨by decide, by decide, by decide +kernel⟩, by decide⟩
theorem my_X8_signAt : aw_Y yX8_signAt cX8_signAt 2 (some FieldType.int) 1 := ⟨co_X8_signAt, ini_X8, ⟨by decide, by decide, by decide +kernel⟩, by decide⟩
theorem my_X10_fork : aw_Y yX10_fork cX10_fork 3 (some FieldType.int) 2 := ⟨co_X10_fork, ini_X10, ⟨by decide, by decide, by decide +kernel⟩, by decide⟩
theorem my_X3_highestBehind : aw_Y yX3_highestBehind cX3_highestBehind 4 (some FieldType.int) 2 := ⟨co_X3_highestBehind, ini_X3, ⟨by decide, by decide, by decide +kernel⟩, by decide⟩
theorem my_X3_join : aw_Y yX3_join cX3_join 3 (none : Option FieldType) 2 := ⟨co_X3_join, ini_X3, ⟨by decide, by decide, by decide +kernel⟩, by decide⟩
theorem my_X10_comesFrom : aw_Y yX10_comesFrom cX10_comesFrom 3 (some FieldType.int) 2 := ⟨co_X10_comesFrom, ini_X10, ⟨by decide, by decide, by decide +kernel⟩, by decide⟩
theorem my_X10_show : aw_Y yX10_show cX10_show 3 (some FieldType.int) 1 := ⟨co_X10_show, ini_X10, ⟨by decide, by decide, by decide +kernel⟩, by decide⟩
theorem my_X8_size : aw_Y yX8_size cX8_size 1 (some FieldType.int) 0 := ⟨co_X8_size, ini_X8, ⟨by decide, by decide, by decide +kernel⟩, by decide⟩
theorem my_X10_shown : aw_Y yX10_shown cX10_shown 2 (some FieldType.int) 1 := ⟨co_X10_shown, ini_X10, ⟨by decide, by decide, by decide +kernel⟩, by decide⟩
theorem my_X10_digest : aw_Y yX10_digest cX10_digest 3 (some FieldType.int) 1 := ⟨co_X10_digest, ini_X10, ⟨by decide, by decide, by decide +kernel⟩, by decide⟩
theorem my_X8_hashed : aw_Y yX8_hashed cX8_hashed 3 (some FieldType.int) 0 := ⟨co_X8_hashed, ini_X8, ⟨by decide, by decide, by decide +kernel⟩, by decide⟩
theorem my_X10_status : aw_Y yX10_status cX10_status 2 (some FieldType.int) 1 := ⟨co_X10_status, ini_X10, ⟨by decide, by decide, by decide +kernel⟩, by decide⟩
theorem my_X10_image : aw_Y yX10_image cX10_image 1 (some FieldType.int) 0 := ⟨co_X10_image, ini_X10, ⟨by decide, by decide, by decide +kernel⟩, by decide⟩
theorem my_X3_keepImage : aw_Y yX3_keepImage cX3_keepImage 2 (none : Option FieldType) 0 := ⟨co_X3_keepImage, ini_X3, ⟨by decide, by decide, by decide +kernel⟩, by decide⟩
theorem my_X10_back : aw_Y yX10_back cX10_back 1 (some FieldType.int) 0 := ⟨co_X10_back, ini_X10, ⟨by decide, by decide, by decide +kernel⟩, by decide⟩
theorem my_X3_restoreImage : aw_Y yX3_restoreImage cX3_restoreImage 2 (some FieldType.boolean) 0 := ⟨co_X3_restoreImage, ini_X3, ⟨by decide, by decide, by decide +kernel⟩, by decide⟩
theorem my_X10_count : aw_Y yX10_count cX10_count 2 (some FieldType.int) 1 := ⟨co_X10_count, ini_X10, ⟨by decide, by decide, by decide +kernel⟩, by decide⟩
theorem my_X1_width : aw_Y yX1_width cX1_width 1 (some FieldType.int) 0 := ⟨co_X1_width, ini_X1, ⟨by decide, by decide, by decide +kernel⟩, by decide⟩
theorem my_X10_liveNodes : aw_Y yX10_liveNodes cX10_liveNodes 4 (some FieldType.int) 0 := ⟨co_X10_liveNodes, ini_X10, ⟨by decide, by decide, by decide +kernel⟩, by decide⟩
theorem my_X10_openBuilders : aw_Y yX10_openBuilders cX10_openBuilders 4 (some FieldType.int) 0 := ⟨co_X10_openBuilders, ini_X10, ⟨by decide, by decide, by decide +kernel⟩, by decide⟩
theorem my_X10_key : aw_Y yX10_key cX10_key 3 (some FieldType.int) 2 := ⟨co_X10_key, ini_X10, ⟨by decide, by decide, by decide +kernel⟩, by decide⟩
theorem my_X11_init : aw_Y yX11_init cX11_init 1 (none : Option FieldType) 0 := ⟨co_X11_init, ini_X11, ⟨by decide, by decide, by decide +kernel⟩, by decide⟩
theorem my_X11_thrown : aw_Y yX11_thrown cX11_thrown 1 (some FieldType.int) 0 := ⟨co_X11_thrown, ini_X11, ⟨by decide, by decide, by decide +kernel⟩, by decide⟩
theorem my_X11_feed : aw_Y yX11_feed cX11_feed 6 (some FieldType.int) 5 := ⟨co_X11_feed, ini_X11, ⟨by decide, by decide, by decide +kernel⟩, by decide⟩
theorem my_X11_bytesOf : aw_Y yX11_bytesOf cX11_bytesOf 3 (some FieldType.int) 1 := ⟨co_X11_bytesOf, ini_X11, ⟨by decide, by decide, by decide +kernel⟩, by decide⟩
theorem my_X11_brings : aw_Y yX11_brings cX11_brings 4 (none : Option FieldType) 1 := ⟨co_X11_brings, ini_X11, ⟨by decide, by decide, by decide +kernel⟩, by decide⟩
theorem my_X11_end : aw_Y yX11_end cX11_end 2 (some FieldType.boolean) 1 := ⟨co_X11_end, ini_X11, ⟨by decide, by decide, by decide +kernel⟩, by decide⟩
theorem my_X11_fault : aw_Y yX11_fault cX11_fault 2 (some FieldType.int) 1 := ⟨co_X11_fault, ini_X11, ⟨by decide, by decide, by decide +kernel⟩, by decide⟩
theorem my_X11_isIn : aw_Y yX11_isIn cX11_isIn 6 (some FieldType.boolean) 3 := ⟨co_X11_isIn, ini_X11, ⟨by decide, by decide, by decide +kernel⟩, by decide⟩
theorem my_X11_readEntries : aw_Y yX11_readEntries cX11_readEntries 4 (none : Option FieldType) 0 := ⟨co_X11_readEntries, ini_X11, ⟨by decide, by decide, by decide +kernel⟩, by decide⟩
theorem my_X11_look : aw_Y yX11_look cX11_look 1 (some FieldType.int) 0 := ⟨co_X11_look, ini_X11, ⟨by decide, by decide, by decide +kernel⟩, by decide⟩
theorem my_X11_here : aw_Y yX11_here cX11_here 1 (some FieldType.int) 0 := ⟨co_X11_here, ini_X11, ⟨by decide, by decide, by decide +kernel⟩, by decide⟩
theorem my_X11_number : aw_Y yX11_number cX11_number 3 (some FieldType.int) 0 := ⟨co_X11_number, ini_X11, ⟨by decide, by decide, by decide +kernel⟩, by decide⟩
theorem my_X11_isDigit : aw_Y yX11_isDigit cX11_isDigit 1 (some FieldType.boolean) 0 := ⟨co_X11_isDigit, ini_X11, ⟨by decide, by decide, by decide +kernel⟩, by decide⟩
theorem my_X11_fails : aw_Y yX11_fails cX11_fails 1 (none : Option FieldType) 0 := ⟨co_X11_fails, ini_X11, ⟨by decide, by decide, by decide +kernel⟩, by decide⟩
theorem my_X11_value : aw_Y yX11_value cX11_value 3 (some FieldType.int) 0 := ⟨co_X11_value, ini_X11, ⟨by decide, by decide, by decide +kernel⟩, by decide⟩
theorem my_X11_readPlan : aw_Y yX11_readPlan cX11_readPlan 3 (none : Option FieldType) 0 := ⟨co_X11_readPlan, ini_X11, ⟨by decide, by decide, by decide +kernel⟩, by decide⟩
theorem my_X11_readStep : aw_Y yX11_readStep cX11_readStep 4 (none : Option FieldType) 1 := ⟨co_X11_readStep, ini_X11, ⟨by decide, by decide, by decide +kernel⟩, by decide⟩
theorem my_X11_word : aw_Y yX11_word cX11_word 4 (some FieldType.int) 0 := ⟨co_X11_word, ini_X11, ⟨by decide, by decide, by decide +kernel⟩, by decide⟩
theorem my_X11_text : aw_Y yX11_text cX11_text 5 (some FieldType.int) 1 := ⟨co_X11_text, ini_X11, ⟨by decide, by decide, by decide +kernel⟩, by decide⟩
theorem my_X11_hasRoom : aw_Y yX11_hasRoom cX11_hasRoom 1 (some FieldType.boolean) 0 := ⟨co_X11_hasRoom, ini_X11, ⟨by decide, by decide, by decide +kernel⟩, by decide⟩
theorem my_X11_refused : aw_Y yX11_refused cX11_refused 2 (some FieldType.int) 1 := ⟨co_X11_refused, ini_X11, ⟨by decide, by decide, by decide +kernel⟩, by decide⟩
theorem my_X11_newToken : aw_Y yX11_newToken cX11_newToken 1 (some FieldType.int) 0 := ⟨co_X11_newToken, ini_X11, ⟨by decide, by decide, by decide +kernel⟩, by decide⟩
theorem my_X11_sweeps : aw_Y yX11_sweeps cX11_sweeps 3 (none : Option FieldType) 0 := ⟨co_X11_sweeps, ini_X11, ⟨by decide, by decide, by decide +kernel⟩, by decide⟩
theorem my_X11_marks : aw_Y yX11_marks cX11_marks 4 (some FieldType.int) 1 := ⟨co_X11_marks, ini_X11, ⟨by decide, by decide, by decide +kernel⟩, by decide⟩
theorem my_X11_child : aw_Y yX11_child cX11_child 3 (some FieldType.int) 2 := ⟨co_X11_child, ini_X11, ⟨by decide, by decide, by decide +kernel⟩, by decide⟩
theorem my_X11_has : aw_Y yX11_has cX11_has 2 (some FieldType.boolean) 2 := ⟨co_X11_has, ini_X11, ⟨by decide, by decide, by decide +kernel⟩, by decide⟩
theorem my_X11_fresh : aw_Y yX11_fresh cX11_fresh 4 (some FieldType.int) 2 := ⟨co_X11_fresh, ini_X11, ⟨by decide, by decide, by decide +kernel⟩, by decide⟩
theorem my_X11_puts : aw_Y yX11_puts cX11_puts 11 (some FieldType.int) 4 := ⟨co_X11_puts, ini_X11, ⟨by decide, by decide, by decide +kernel⟩, by decide⟩
theorem my_X11_valueAt : aw_Y yX11_valueAt cX11_valueAt 5 (some FieldType.int) 2 := ⟨co_X11_valueAt, ini_X11, ⟨by decide, by decide, by decide +kernel⟩, by decide⟩
theorem my_X11_leafFor : aw_Y yX11_leafFor cX11_leafFor 4 (some FieldType.int) 2 := ⟨co_X11_leafFor, ini_X11, ⟨by decide, by decide, by decide +kernel⟩, by decide⟩
theorem my_X11_spotFor : aw_Y yX11_spotFor cX11_spotFor 5 (some FieldType.int) 2 := ⟨co_X11_spotFor, ini_X11, ⟨by decide, by decide, by decide +kernel⟩, by decide⟩
theorem my_X11_lowest : aw_Y yX11_lowest cX11_lowest 2 (some FieldType.int) 1 := ⟨co_X11_lowest, ini_X11, ⟨by decide, by decide, by decide +kernel⟩, by decide⟩
theorem my_X11_spotIn : aw_Y yX11_spotIn cX11_spotIn 4 (some FieldType.int) 2 := ⟨co_X11_spotIn, ini_X11, ⟨by decide, by decide, by decide +kernel⟩, by decide⟩
theorem my_X11_goesDown : aw_Y yX11_goesDown cX11_goesDown 8 (some FieldType.int) 3 := ⟨co_X11_goesDown, ini_X11, ⟨by decide, by decide, by decide +kernel⟩, by decide⟩
theorem my_X11_edited : aw_Y yX11_edited cX11_edited 5 (some FieldType.int) 2 := ⟨co_X11_edited, ini_X11, ⟨by decide, by decide, by decide +kernel⟩, by decide⟩
theorem my_X11_putsIn : aw_Y yX11_putsIn cX11_putsIn 6 (none : Option FieldType) 4 := ⟨co_X11_putsIn, ini_X11, ⟨by decide, by decide, by decide +kernel⟩, by decide⟩
theorem my_X11_parted : aw_Y yX11_parted cX11_parted 7 (some FieldType.int) 2 := ⟨co_X11_parted, ini_X11, ⟨by decide, by decide, by decide +kernel⟩, by decide⟩
theorem my_X11_newMap : aw_Y yX11_newMap cX11_newMap 4 (some FieldType.int) 3 := ⟨co_X11_newMap, ini_X11, ⟨by decide, by decide, by decide +kernel⟩, by decide⟩
theorem my_X11_wide : aw_Y yX11_wide cX11_wide 3 (some FieldType.int) 1 := ⟨co_X11_wide, ini_X11, ⟨by decide, by decide, by decide +kernel⟩, by decide⟩
theorem my_X11_find : aw_Y yX11_find cX11_find 3 (some FieldType.int) 2 := ⟨co_X11_find, ini_X11, ⟨by decide, by decide, by decide +kernel⟩, by decide⟩
theorem my_X11_isMap : aw_Y yX11_isMap cX11_isMap 2 (some FieldType.boolean) 1 := ⟨co_X11_isMap, ini_X11, ⟨by decide, by decide, by decide +kernel⟩, by decide⟩
theorem my_X11_key : aw_Y yX11_key cX11_key 3 (some FieldType.int) 2 := ⟨co_X11_key, ini_X11, ⟨by decide, by decide, by decide +kernel⟩, by decide⟩
theorem my_X11_laysTree : aw_Y yX11_laysTree cX11_laysTree 2 (none : Option FieldType) 1 := ⟨co_X11_laysTree, ini_X11, ⟨by decide, by decide, by decide +kernel⟩, by decide⟩
theorem my_X11_goesThrough : aw_Y yX11_goesThrough cX11_goesThrough 4 (none : Option FieldType) 2 := ⟨co_X11_goesThrough, ini_X11, ⟨by decide, by decide, by decide +kernel⟩, by decide⟩
theorem my_X11_about : aw_Y yX11_about cX11_about 3 (some FieldType.int) 2 := ⟨co_X11_about, ini_X11, ⟨by decide, by decide, by decide +kernel⟩, by decide⟩
theorem my_X11_levels : aw_Y yX11_levels cX11_levels 3 (some FieldType.int) 0 := ⟨co_X11_levels, ini_X11, ⟨by decide, by decide, by decide +kernel⟩, by decide⟩
theorem my_X11_leaves : aw_Y yX11_leaves cX11_leaves 3 (some FieldType.int) 0 := ⟨co_X11_leaves, ini_X11, ⟨by decide, by decide, by decide +kernel⟩, by decide⟩
theorem my_X11_sumOf : aw_Y yX11_sumOf cX11_sumOf 5 (some FieldType.int) 2 := ⟨co_X11_sumOf, ini_X11, ⟨by decide, by decide, by decide +kernel⟩, by decide⟩
theorem my_X11_below : aw_Y yX11_below cX11_below 4 (some FieldType.int) 2 := ⟨co_X11_below, ini_X11, ⟨by decide, by decide, by decide +kernel⟩, by decide⟩
theorem my_X11_near : aw_Y yX11_near cX11_near 7 (some FieldType.int) 3 := ⟨co_X11_near, ini_X11, ⟨by decide, by decide, by decide +kernel⟩, by decide⟩
theorem my_X11_total : aw_Y yX11_total cX11_total 4 (some FieldType.int) 3 := ⟨co_X11_total, ini_X11, ⟨by decide, by decide, by decide +kernel⟩, by decide⟩
theorem my_X11_node : aw_Y yX11_node cX11_node 5 (some FieldType.int) 3 := ⟨co_X11_node, ini_X11, ⟨by decide, by decide, by decide +kernel⟩, by decide⟩
theorem my_X11_holders : aw_Y yX11_holders cX11_holders 5 (some FieldType.int) 1 := ⟨co_X11_holders, ini_X11, ⟨by decide, by decide, by decide +kernel⟩, by decide⟩
theorem my_X11_keysOf : aw_Y yX11_keysOf cX11_keysOf 2 (some FieldType.int) 1 := ⟨co_X11_keysOf, ini_X11, ⟨by decide, by decide, by decide +kernel⟩, by decide⟩
theorem my_X11_having : aw_Y yX11_having cX11_having 4 (some FieldType.int) 3 := ⟨co_X11_having, ini_X11, ⟨by decide, by decide, by decide +kernel⟩, by decide⟩
theorem my_X11_lacking : aw_Y yX11_lacking cX11_lacking 3 (some FieldType.int) 2 := ⟨co_X11_lacking, ini_X11, ⟨by decide, by decide, by decide +kernel⟩, by decide⟩
theorem my_X11_takes : aw_Y yX11_takes cX11_takes 7 (some FieldType.int) 3 := ⟨co_X11_takes, ini_X11, ⟨by decide, by decide, by decide +kernel⟩, by decide⟩
theorem my_X11_takesFrom : aw_Y yX11_takesFrom cX11_takesFrom 4 (none : Option FieldType) 2 := ⟨co_X11_takesFrom, ini_X11, ⟨by decide, by decide, by decide +kernel⟩, by decide⟩
theorem my_X11_least : aw_Y yX11_least cX11_least 1 (some FieldType.int) 0 := ⟨co_X11_least, ini_X11, ⟨by decide, by decide, by decide +kernel⟩, by decide⟩
theorem my_X11_fills : aw_Y yX11_fills cX11_fills 8 (none : Option FieldType) 3 := ⟨co_X11_fills, ini_X11, ⟨by decide, by decide, by decide +kernel⟩, by decide⟩
theorem my_X11_merge : aw_Y yX11_merge cX11_merge 10 (some FieldType.int) 3 := ⟨co_X11_merge, ini_X11, ⟨by decide, by decide, by decide +kernel⟩, by decide⟩
theorem my_X11_laysTwo : aw_Y yX11_laysTwo cX11_laysTwo 4 (none : Option FieldType) 2 := ⟨co_X11_laysTwo, ini_X11, ⟨by decide, by decide, by decide +kernel⟩, by decide⟩
theorem my_X11_laysThere : aw_Y yX11_laysThere cX11_laysThere 4 (none : Option FieldType) 2 := ⟨co_X11_laysThere, ini_X11, ⟨by decide, by decide, by decide +kernel⟩, by decide⟩
theorem my_X11_laysOwn : aw_Y yX11_laysOwn cX11_laysOwn 3 (none : Option FieldType) 1 := ⟨co_X11_laysOwn, ini_X11, ⟨by decide, by decide, by decide +kernel⟩, by decide⟩
theorem my_X11_ruled : aw_Y yX11_ruled cX11_ruled 3 (some FieldType.int) 3 := ⟨co_X11_ruled, ini_X11, ⟨by decide, by decide, by decide +kernel⟩, by decide⟩
theorem my_X11_held : aw_Y yX11_held cX11_held 1 (some FieldType.int) 1 := ⟨co_X11_held, ini_X11, ⟨by decide, by decide, by decide +kernel⟩, by decide⟩
theorem my_X11_three : aw_Y yX11_three cX11_three 10 (some FieldType.int) 4 := ⟨co_X11_three, ini_X11, ⟨by decide, by decide, by decide +kernel⟩, by decide⟩
theorem my_X11_laysThree : aw_Y yX11_laysThree cX11_laysThree 5 (none : Option FieldType) 3 := ⟨co_X11_laysThree, ini_X11, ⟨by decide, by decide, by decide +kernel⟩, by decide⟩
theorem my_X11_asWhich : aw_Y yX11_asWhich cX11_asWhich 3 (some FieldType.int) 2 := ⟨co_X11_asWhich, ini_X11, ⟨by decide, by decide, by decide +kernel⟩, by decide⟩
theorem my_X11_isUnlike : aw_Y yX11_isUnlike cX11_isUnlike 4 (some FieldType.boolean) 3 := ⟨co_X11_isUnlike, ini_X11, ⟨by decide, by decide, by decide +kernel⟩, by decide⟩
theorem my_X11_isConflict : aw_Y yX11_isConflict cX11_isConflict 2 (some FieldType.boolean) 1 := ⟨co_X11_isConflict, ini_X11, ⟨by decide, by decide, by decide +kernel⟩, by decide⟩
theorem my_X11_conflicts : aw_Y yX11_conflicts cX11_conflicts 6 (some FieldType.int) 3 := ⟨co_X11_conflicts, ini_X11, ⟨by decide, by decide, by decide +kernel⟩, by decide⟩
theorem my_X11_slice : aw_Y yX11_slice cX11_slice 4 (some FieldType.int) 3 := ⟨co_X11_slice, ini_X11, ⟨by decide, by decide, by decide +kernel⟩, by decide⟩
theorem my_X11_cuts : aw_Y yX11_cuts cX11_cuts 8 (some FieldType.int) 5 := ⟨co_X11_cuts, ini_X11, ⟨by decide, by decide, by decide +kernel⟩, by decide⟩
theorem my_X11_drop : aw_Y yX11_drop cX11_drop 2 (some FieldType.int) 1 := ⟨co_X11_drop, ini_X11, ⟨by decide, by decide, by decide +kernel⟩, by decide⟩
theorem my_X11_build : aw_Y yX11_build cX11_build 3 (some FieldType.int) 2 := ⟨co_X11_build, ini_X11, ⟨by decide, by decide, by decide +kernel⟩, by decide⟩
theorem my_X11_isBuilder : aw_Y yX11_isBuilder cX11_isBuilder 2 (some FieldType.boolean) 1 := ⟨co_X11_isBuilder, ini_X11, ⟨by decide, by decide, by decide +kernel⟩, by decide⟩
theorem my_X11_lay : aw_Y yX11_lay cX11_lay 4 (some FieldType.int) 3 := ⟨co_X11_lay, ini_X11, ⟨by decide, by decide, by decide +kernel⟩, by decide⟩
theorem my_X11_lays : aw_Y yX11_lays cX11_lays 7 (some FieldType.int) 4 := ⟨co_X11_lays, ini_X11, ⟨by decide, by decide, by decide +kernel⟩, by decide⟩
theorem my_X11_stops : aw_Y yX11_stops cX11_stops 3 (some FieldType.int) 2 := ⟨co_X11_stops, ini_X11, ⟨by decide, by decide, by decide +kernel⟩, by decide⟩
theorem my_X11_isOpen : aw_Y yX11_isOpen cX11_isOpen 2 (some FieldType.boolean) 1 := ⟨co_X11_isOpen, ini_X11, ⟨by decide, by decide, by decide +kernel⟩, by decide⟩
theorem my_X11_canPut : aw_Y yX11_canPut cX11_canPut 3 (some FieldType.boolean) 2 := ⟨co_X11_canPut, ini_X11, ⟨by decide, by decide, by decide +kernel⟩, by decide⟩
theorem my_X11_builderAdds : aw_Y yX11_builderAdds cX11_builderAdds 5 (none : Option FieldType) 3 := ⟨co_X11_builderAdds, ini_X11, ⟨by decide, by decide, by decide +kernel⟩, by decide⟩
theorem my_X11_builderPuts : aw_Y yX11_builderPuts cX11_builderPuts 4 (none : Option FieldType) 3 := ⟨co_X11_builderPuts, ini_X11, ⟨by decide, by decide, by decide +kernel⟩, by decide⟩
theorem my_X11_add : aw_Y yX11_add cX11_add 4 (some FieldType.int) 3 := ⟨co_X11_add, ini_X11, ⟨by decide, by decide, by decide +kernel⟩, by decide⟩
theorem my_X11_take : aw_Y yX11_take cX11_take 5 (some FieldType.int) 2 := ⟨co_X11_take, ini_X11, ⟨by decide, by decide, by decide +kernel⟩, by decide⟩
theorem my_X11_cut : aw_Y yX11_cut cX11_cut 6 (some FieldType.int) 3 := ⟨co_X11_cut, ini_X11, ⟨by decide, by decide, by decide +kernel⟩, by decide⟩
theorem my_X11_inc : aw_Y yX11_inc cX11_inc 7 (some FieldType.int) 4 := ⟨co_X11_inc, ini_X11, ⟨by decide, by decide, by decide +kernel⟩, by decide⟩
theorem my_X11_builderIncs : aw_Y yX11_builderIncs cX11_builderIncs 7 (none : Option FieldType) 4 := ⟨co_X11_builderIncs, ini_X11, ⟨by decide, by decide, by decide +kernel⟩, by decide⟩
theorem my_X11_snap : aw_Y yX11_snap cX11_snap 3 (some FieldType.int) 1 := ⟨co_X11_snap, ini_X11, ⟨by decide, by decide, by decide +kernel⟩, by decide⟩
theorem my_X11_snapped : aw_Y yX11_snapped cX11_snapped 3 (some FieldType.int) 1 := ⟨co_X11_snapped, ini_X11, ⟨by decide, by decide, by decide +kernel⟩, by decide⟩
theorem my_X11_freeze : aw_Y yX11_freeze cX11_freeze 3 (some FieldType.int) 1 := ⟨co_X11_freeze, ini_X11, ⟨by decide, by decide, by decide +kernel⟩, by decide⟩
theorem my_X11_peek : aw_Y yX11_peek cX11_peek 3 (some FieldType.int) 2 := ⟨co_X11_peek, ini_X11, ⟨by decide, by decide, by decide +kernel⟩, by decide⟩
theorem my_X11_builder : aw_Y yX11_builder cX11_builder 3 (some FieldType.int) 2 := ⟨co_X11_builder, ini_X11, ⟨by decide, by decide, by decide +kernel⟩, by decide⟩
theorem my_X11_ownNodes : aw_Y yX11_ownNodes cX11_ownNodes 4 (some FieldType.int) 1 := ⟨co_X11_ownNodes, ini_X11, ⟨by decide, by decide, by decide +kernel⟩, by decide⟩
theorem my_X11_draws : aw_Y yX11_draws cX11_draws 11 (some FieldType.int) 3 := ⟨co_X11_draws, ini_X11, ⟨by decide, by decide, by decide +kernel⟩, by decide⟩
theorem my_X11_draw : aw_Y yX11_draw cX11_draw 2 (some FieldType.int) 1 := ⟨co_X11_draw, ini_X11, ⟨by decide, by decide, by decide +kernel⟩, by decide⟩
theorem my_X11_step : aw_Y yX11_step cX11_step 4 (some FieldType.int) 3 := ⟨co_X11_step, ini_X11, ⟨by decide, by decide, by decide +kernel⟩, by decide⟩
theorem my_X11_run : aw_Y yX11_run cX11_run 5 (some FieldType.int) 2 := ⟨co_X11_run, ini_X11, ⟨by decide, by decide, by decide +kernel⟩, by decide⟩
theorem my_X11_goesStep : aw_Y yX11_goesStep cX11_goesStep 6 (some FieldType.boolean) 2 := ⟨co_X11_goesStep, ini_X11, ⟨by decide, by decide, by decide +kernel⟩, by decide⟩
theorem my_X11_shared : aw_Y yX11_shared cX11_shared 3 (some FieldType.int) 2 := ⟨co_X11_shared, ini_X11, ⟨by decide, by decide, by decide +kernel⟩, by decide⟩
theorem my_X11_sharedBy : aw_Y yX11_sharedBy cX11_sharedBy 6 (some FieldType.int) 2 := ⟨co_X11_sharedBy, ini_X11, ⟨by decide, by decide, by decide +kernel⟩, by decide⟩
theorem my_X11_looked : aw_Y yX11_looked cX11_looked 4 (some FieldType.int) 2 := ⟨co_X11_looked, ini_X11, ⟨by decide, by decide, by decide +kernel⟩, by decide⟩
theorem my_X11_difference : aw_Y yX11_difference cX11_difference 7 (some FieldType.int) 4 := ⟨co_X11_difference, ini_X11, ⟨by decide, by decide, by decide +kernel⟩, by decide⟩
theorem my_X11_alike : aw_Y yX11_alike cX11_alike 4 (some FieldType.int) 3 := ⟨co_X11_alike, ini_X11, ⟨by decide, by decide, by decide +kernel⟩, by decide⟩
theorem my_X11_holdSame : aw_Y yX11_holdSame cX11_holdSame 4 (some FieldType.boolean) 2 := ⟨co_X11_holdSame, ini_X11, ⟨by decide, by decide, by decide +kernel⟩, by decide⟩
theorem my_X11_areNodesAlike : aw_Y yX11_areNodesAlike cX11_areNodesAlike 5 (some FieldType.boolean) 2 := ⟨co_X11_areNodesAlike, ini_X11, ⟨by decide, by decide, by decide +kernel⟩, by decide⟩
theorem my_X11_fork : aw_Y yX11_fork cX11_fork 5 (some FieldType.int) 2 := ⟨co_X11_fork, ini_X11, ⟨by decide, by decide, by decide +kernel⟩, by decide⟩
theorem my_X11_laysSources : aw_Y yX11_laysSources cX11_laysSources 4 (none : Option FieldType) 2 := ⟨co_X11_laysSources, ini_X11, ⟨by decide, by decide, by decide +kernel⟩, by decide⟩
theorem my_X11_comesFrom : aw_Y yX11_comesFrom cX11_comesFrom 4 (some FieldType.int) 2 := ⟨co_X11_comesFrom, ini_X11, ⟨by decide, by decide, by decide +kernel⟩, by decide⟩
theorem my_X11_show : aw_Y yX11_show cX11_show 3 (some FieldType.int) 1 := ⟨co_X11_show, ini_X11, ⟨by decide, by decide, by decide +kernel⟩, by decide⟩
theorem my_X11_laysShown : aw_Y yX11_laysShown cX11_laysShown 2 (none : Option FieldType) 1 := ⟨co_X11_laysShown, ini_X11, ⟨by decide, by decide, by decide +kernel⟩, by decide⟩
theorem my_X11_writesNode : aw_Y yX11_writesNode cX11_writesNode 3 (none : Option FieldType) 1 := ⟨co_X11_writesNode, ini_X11, ⟨by decide, by decide, by decide +kernel⟩, by decide⟩
theorem my_X11_writes : aw_Y yX11_writes cX11_writes 2 (none : Option FieldType) 1 := ⟨co_X11_writes, ini_X11, ⟨by decide, by decide, by decide +kernel⟩, by decide⟩
theorem my_X11_writesNumber : aw_Y yX11_writesNumber cX11_writesNumber 3 (none : Option FieldType) 1 := ⟨co_X11_writesNumber, ini_X11, ⟨by decide, by decide, by decide +kernel⟩, by decide⟩
theorem my_X11_shown : aw_Y yX11_shown cX11_shown 2 (some FieldType.int) 1 := ⟨co_X11_shown, ini_X11, ⟨by decide, by decide, by decide +kernel⟩, by decide⟩
theorem my_X11_digest : aw_Y yX11_digest cX11_digest 4 (some FieldType.int) 1 := ⟨co_X11_digest, ini_X11, ⟨by decide, by decide, by decide +kernel⟩, by decide⟩
theorem my_X11_status : aw_Y yX11_status cX11_status 2 (some FieldType.int) 1 := ⟨co_X11_status, ini_X11, ⟨by decide, by decide, by decide +kernel⟩, by decide⟩
theorem my_X11_image : aw_Y yX11_image cX11_image 2 (some FieldType.int) 0 := ⟨co_X11_image, ini_X11, ⟨by decide, by decide, by decide +kernel⟩, by decide⟩
theorem my_X11_back : aw_Y yX11_back cX11_back 2 (some FieldType.int) 0 := ⟨co_X11_back, ini_X11, ⟨by decide, by decide, by decide +kernel⟩, by decide⟩
theorem my_X11_count : aw_Y yX11_count cX11_count 2 (some FieldType.int) 1 := ⟨co_X11_count, ini_X11, ⟨by decide, by decide, by decide +kernel⟩, by decide⟩
theorem my_X11_live : aw_Y yX11_live cX11_live 3 (some FieldType.int) 0 := ⟨co_X11_live, ini_X11, ⟨by decide, by decide, by decide +kernel⟩, by decide⟩
theorem aw_clX0 : ∀ (C : String) (T : u_T) (N : Nat), vwCl[0]? = some (C, T, N) → C = RX0 := fun C T N h => by cases h; rfl
theorem aw_clX1 : ∀ (C : String) (T : u_T) (N : Nat), vwCl[1]? = some (C, T, N) → C = RX1 := fun C T N h => by cases h; rfl
theorem aw_clX2 : ∀ (C : String) (T : u_T) (N : Nat), vwCl[2]? = some (C, T, N) → C = RX2 := fun C T N h => by cases h; rfl
theorem aw_clX3 : ∀ (C : String) (T : u_T) (N : Nat), vwCl[3]? = some (C, T, N) → C = RX3 := fun C T N h => by cases h; rfl
theorem aw_clX4 : ∀ (C : String) (T : u_T) (N : Nat), vwCl[4]? = some (C, T, N) → C = RX4 := fun C T N h => by cases h; rfl
theorem aw_clX5 : ∀ (C : String) (T : u_T) (N : Nat), vwCl[5]? = some (C, T, N) → C = RX5 := fun C T N h => by cases h; rfl
theorem aw_clX6 : ∀ (C : String) (T : u_T) (N : Nat), vwCl[6]? = some (C, T, N) → C = RX6 := fun C T N h => by cases h; rfl
theorem aw_clX7 : ∀ (C : String) (T : u_T) (N : Nat), vwCl[7]? = some (C, T, N) → C = RX7 := fun C T N h => by cases h; rfl
theorem aw_clX8 : ∀ (C : String) (T : u_T) (N : Nat), vwCl[8]? = some (C, T, N) → C = RX8 := fun C T N h => by cases h; rfl
theorem aw_clX9 : ∀ (C : String) (T : u_T) (N : Nat), vwCl[9]? = some (C, T, N) → C = RX9 := fun C T N h => by cases h; rfl
theorem aw_clX10 : ∀ (C : String) (T : u_T) (N : Nat), vwCl[10]? = some (C, T, N) → C = RX10 := fun C T N h => by cases h; rfl
theorem aw_clX11 : ∀ (C : String) (T : u_T) (N : Nat), vwCl[11]? = some (C, T, N) → C = RX11 := fun C T N h => by cases h; rfl
theorem sL_wI (S : aw_S) (F a : Nat) (v : Int32) : sL (wI S F a v) = sL S := rfl
theorem sK_wI (S : aw_S) (F a : Nat) (v : Int32) : sK (wI S F a v) = sK S := rfl
theorem sR_wI (S : aw_S) (F a : Nat) (v : Int32) : sR (wI S F a v) = sR S := rfl
theorem sJ_wI (S : aw_S) (F a : Nat) (v : Int32) : sJ (wI S F a v) = sJ S := rfl
theorem sN_wI (S : aw_S) (F a : Nat) (v : Int32) : sN (wI S F a v) = sN S := rfl
theorem sA_wI (S : aw_S) (F a : Nat) (v : Int32) : sA (wI S F a v) = sA S := rfl
theorem sQ_wI (S : aw_S) (F a : Nat) (v : Int32) : sQ (wI S F a v) = sQ S := rfl
theorem sB_wI (S : aw_S) (F a : Nat) (v : Int32) : sB (wI S F a v) = sB S := rfl
theorem is_wI (S : aw_S) (F a : Nat) (v : Int32) (b c : Nat) : aw_is (wI S F a v) b c = aw_is S b c := rfl
theorem sL_wR (S : aw_S) (F a : Nat) (v : Option Nat) : sL (wR S F a v) = sL S := rfl
theorem sK_wR (S : aw_S) (F a : Nat) (v : Option Nat) : sK (wR S F a v) = sK S := rfl
theorem sI_wR (S : aw_S) (F a : Nat) (v : Option Nat) : sI (wR S F a v) = sI S := rfl
theorem sJ_wR (S : aw_S) (F a : Nat) (v : Option Nat) : sJ (wR S F a v) = sJ S := rfl
theorem sN_wR (S : aw_S) (F a : Nat) (v : Option Nat) : sN (wR S F a v) = sN S := rfl
theorem sA_wR (S : aw_S) (F a : Nat) (v : Option Nat) : sA (wR S F a v) = sA S := rfl
theorem sQ_wR (S : aw_S) (F a : Nat) (v : Option Nat) : sQ (wR S F a v) = sQ S := rfl
theorem sB_wR (S : aw_S) (F a : Nat) (v : Option Nat) : sB (wR S F a v) = sB S := rfl
theorem is_wR (S : aw_S) (F a : Nat) (v : Option Nat) (b c : Nat) : aw_is (wR S F a v) b c = aw_is S b c := rfl
theorem sL_wJ (S : aw_S) (F a : Nat) (v : Int64) : sL (wJ S F a v) = sL S := rfl
theorem sK_wJ (S : aw_S) (F a : Nat) (v : Int64) : sK (wJ S F a v) = sK S := rfl
theorem sI_wJ (S : aw_S) (F a : Nat) (v : Int64) : sI (wJ S F a v) = sI S := rfl
theorem sR_wJ (S : aw_S) (F a : Nat) (v : Int64) : sR (wJ S F a v) = sR S := rfl
theorem sN_wJ (S : aw_S) (F a : Nat) (v : Int64) : sN (wJ S F a v) = sN S := rfl
theorem sA_wJ (S : aw_S) (F a : Nat) (v : Int64) : sA (wJ S F a v) = sA S := rfl
theorem sQ_wJ (S : aw_S) (F a : Nat) (v : Int64) : sQ (wJ S F a v) = sQ S := rfl
theorem sB_wJ (S : aw_S) (F a : Nat) (v : Int64) : sB (wJ S F a v) = sB S := rfl
theorem is_wJ (S : aw_S) (F a : Nat) (v : Int64) (b c : Nat) : aw_is (wJ S F a v) b c = aw_is S b c := rfl
theorem sL_wA (S : aw_S) (a k : Nat) (v : Int32) : sL (wA S a k v) = sL S := rfl
theorem sK_wA (S : aw_S) (a k : Nat) (v : Int32) : sK (wA S a k v) = sK S := rfl
theorem sI_wA (S : aw_S) (a k : Nat) (v : Int32) : sI (wA S a k v) = sI S := rfl
theorem sR_wA (S : aw_S) (a k : Nat) (v : Int32) : sR (wA S a k v) = sR S := rfl
theorem sJ_wA (S : aw_S) (a k : Nat) (v : Int32) : sJ (wA S a k v) = sJ S := rfl
theorem sN_wA (S : aw_S) (a k : Nat) (v : Int32) : sN (wA S a k v) = sN S := rfl
theorem sQ_wA (S : aw_S) (a k : Nat) (v : Int32) : sQ (wA S a k v) = sQ S := rfl
theorem sB_wA (S : aw_S) (a k : Nat) (v : Int32) : sB (wA S a k v) = sB S := rfl
theorem is_wA (S : aw_S) (a k : Nat) (v : Int32) (b c : Nat) : aw_is (wA S a k v) b c = aw_is S b c := rfl
theorem sL_wQ (S : aw_S) (a k : Nat) (v : Option Nat) : sL (wQ S a k v) = sL S := rfl
theorem sK_wQ (S : aw_S) (a k : Nat) (v : Option Nat) : sK (wQ S a k v) = sK S := rfl
theorem sI_wQ (S : aw_S) (a k : Nat) (v : Option Nat) : sI (wQ S a k v) = sI S := rfl
theorem sR_wQ (S : aw_S) (a k : Nat) (v : Option Nat) : sR (wQ S a k v) = sR S := rfl
theorem sJ_wQ (S : aw_S) (a k : Nat) (v : Option Nat) : sJ (wQ S a k v) = sJ S := rfl
theorem sN_wQ (S : aw_S) (a k : Nat) (v : Option Nat) : sN (wQ S a k v) = sN S := rfl
theorem sA_wQ (S : aw_S) (a k : Nat) (v : Option Nat) : sA (wQ S a k v) = sA S := rfl
theorem sB_wQ (S : aw_S) (a k : Nat) (v : Option Nat) : sB (wQ S a k v) = sB S := rfl
theorem is_wQ (S : aw_S) (a k : Nat) (v : Option Nat) (b c : Nat) : aw_is (wQ S a k v) b c = aw_is S b c := rfl
theorem sL_wB (S : aw_S) (a k : Nat) (v : Int64) : sL (wB S a k v) = sL S := rfl
theorem sK_wB (S : aw_S) (a k : Nat) (v : Int64) : sK (wB S a k v) = sK S := rfl
theorem sI_wB (S : aw_S) (a k : Nat) (v : Int64) : sI (wB S a k v) = sI S := rfl
theorem sR_wB (S : aw_S) (a k : Nat) (v : Int64) : sR (wB S a k v) = sR S := rfl
theorem sJ_wB (S : aw_S) (a k : Nat) (v : Int64) : sJ (wB S a k v) = sJ S := rfl
theorem sN_wB (S : aw_S) (a k : Nat) (v : Int64) : sN (wB S a k v) = sN S := rfl
theorem sA_wB (S : aw_S) (a k : Nat) (v : Int64) : sA (wB S a k v) = sA S := rfl
theorem sQ_wB (S : aw_S) (a k : Nat) (v : Int64) : sQ (wB S a k v) = sQ S := rfl
theorem is_wB (S : aw_S) (a k : Nat) (v : Int64) (b c : Nat) : aw_is (wB S a k v) b c = aw_is S b c := rfl
theorem sA_wA (S : aw_S) (a k : Nat) (v : Int32) (b j : Nat) : sA (wA S a k v) b j = if b = a ∧ j = k then v else sA S b j := aw_up2 _ _ _ _ _ _
theorem sQ_wQ (S : aw_S) (a k : Nat) (v : Option Nat) (b j : Nat) : sQ (wQ S a k v) b j = if b = a ∧ j = k then v else sQ S b j := aw_up2 _ _ _ _ _ _
theorem is_nO {S : aw_S} {q ci : Nat} : aw_is (nO S q ci) q ci := ⟨List.mem_append_right _ List.mem_cons_self, va_up_self _ _ _⟩
theorem is_nA {S : aw_S} {q kd n : Nat} : aw_is (nA S q kd n) q kd := ⟨List.mem_append_right _ List.mem_cons_self, va_up_self _ _ _⟩
theorem ne_of_is {S : aw_S} {q b c : Nat} (h : aw_is S b c) (f : q ∉ sL S) : b ≠ q := fun z => f (z ▸ h.1)
theorem ne_of_kind {S : aw_S} {a b c1 c2 : Nat} (h1 : aw_is S a c1) (h2 : aw_is S b c2) (h : c1 ≠ c2) : a ≠ b := fun z => h (h1.2.symm.trans (z ▸ h2.2))
theorem is_nO_old {S : aw_S} {q ci b c : Nat} (h : aw_is S b c) (f : q ∉ sL S) : aw_is (nO S q ci) b c := ⟨List.mem_append_left _ h.1, (va_up_ne _ _ (ne_of_is h f)).trans h.2⟩
theorem is_nA_old {S : aw_S} {q kd n b c : Nat} (h : aw_is S b c) (f : q ∉ sL S) : aw_is (nA S q kd n) b c := ⟨List.mem_append_left _ h.1, (va_up_ne _ _ (ne_of_is h f)).trans h.2⟩
theorem sI_nO {S : aw_S} {q ci F b : Nat} : sI (nO S q ci) F b = if b = q then 0 else sI S F b := rfl
theorem sR_nO {S : aw_S} {q ci F b : Nat} : sR (nO S q ci) F b = if b = q then none else sR S F b := rfl
theorem sN_nO {S : aw_S} {q ci : Nat} : sN (nO S q ci) = sN S := rfl
theorem sA_nO {S : aw_S} {q ci : Nat} : sA (nO S q ci) = sA S := rfl
theorem sQ_nO {S : aw_S} {q ci : Nat} : sQ (nO S q ci) = sQ S := rfl
theorem sI_nA {S : aw_S} {q kd n : Nat} : sI (nA S q kd n) = sI S := rfl
theorem sR_nA {S : aw_S} {q kd n : Nat} : sR (nA S q kd n) = sR S := rfl
theorem sN_nA {S : aw_S} {q kd n b : Nat} : sN (nA S q kd n) b = if b = q then n else sN S b := rfl
theorem sA_nA {S : aw_S} {q kd n b : Nat} : sA (nA S q kd n) b = if b = q then fun _ => 0 else sA S b := rfl
theorem sQ_nA {S : aw_S} {q kd n b : Nat} : sQ (nA S q kd n) b = if b = q then fun _ => none else sQ S b := rfl
/-! numbers: an int known by its value -/
theorem i32_le {a b : Int32} : a ≤ b ↔ a.toInt ≤ b.toInt := Int32.le_iff_toInt_le
theorem i32_lt {a b : Int32} : a < b ↔ a.toInt < b.toInt := Int32.lt_iff_toInt_lt
theorem i32_eq {a b : Int32} : a = b ↔ a.toInt = b.toInt := ⟨fun h => by rw [h], Int32.toInt_inj.mp⟩
theorem nI_inj {a b : Nat} (ha : a < 2 ^ 31) (hb : b < 2 ^ 31) (h : nI a = nI b) : a = b := (nI_eq ha hb).mp h
/-- an int that a test puts between 0 and n is a number below n -/
theorem ix_of {i : Int32} {n : Nat} (hn : n < 2 ^ 31) (h0 : ¬ i < 0) (h1 : i < nI n) : ∃ j : Nat, j < n ∧ i = nI j := by
  rcases pk_ix i hn with h | h | h
  · exact absurd h h0
  · have h2 := i32_lt.mp h1
    have h3 := i32_le.mp h
    omega
  · exact h
theorem int_rng (x : Int32) : -2147483648 ≤ x.toInt ∧ x.toInt < 2147483648 := ⟨by have := Int32.le_toInt x; simpa using this, by have := Int32.toInt_lt x; simpa using this⟩
