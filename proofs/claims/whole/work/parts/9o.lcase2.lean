/-! The law's cases, the second half. -/
theorem lc_staged {x : zX} {nc ns : Nat} {Q : State → Prop} {σ : zS} {cL : ClassId} {v0 : Int64} {L : Nat} {xs : Nat → Int32} {i : Int} (h : yH x RL cL_law 7 12) (hT : lT x cL) (hF : yF x (nc + 1) (ns + 6)) (hS : lS x L xs) (hL : L ≤ 2048) (h0 : 0 ≤ i) (h1 : i + 4 ≤ L) (hR : REL σ) (kk : ∀ τ v, REL τ → yW x (lA x) (lEx x cL v) (nc + 1) (ns + 6) Q 1042 (lls i) [] τ) : yW x (lA x) (lEx x cL v0) nc ns Q 716 (lls i) [] σ := by
  refine y_aload_n (pc := 716) h dL_law_716 rfl ?_
  refine y_aload_n (pc := 717) h dL_law_717 rfl ?_
  refine y_iload (pc := 718) h dL_law_718 rfl ?_
  refine y_iconst (pc := 720) h dL_law_720 ?_
  refine y_iadd (pc := 721) h dL_law_721 ?_
  refine l_sld (pc := 722) h hS (by omega) (by omega) hL dL_law_722 ?_
  refine y_aload_n (pc := 723) h dL_law_723 rfl ?_
  refine y_iload (pc := 724) h dL_law_724 rfl ?_
  refine y_iconst (pc := 726) h dL_law_726 ?_
  refine y_iadd (pc := 727) h dL_law_727 ?_
  refine l_sld (pc := 728) h hS (by omega) (by omega) hL dL_law_728 ?_
  refine y_callV (pc := 729) (o := 0) (c := 7) (np := 2) (st := []) h (lE_of hT) (yF0' hF) (J_staged hR (zin_v (xs (i + 1).toNat)) (zin_v (xs (i + 2).toNat))) (by decide) rfl rfl mv_X7_staged ml_L_96 rfl dL_law_729 rfl (Nat.le_of_ble_eq_true rfl) (fun r τ q => ?_)
  obtain ⟨v, rfl, hm⟩ := q
  refine y_aload_n (pc := 732) h dL_law_732 rfl ?_
  refine y_aload_n (pc := 733) h dL_law_733 rfl ?_
  refine y_iload (pc := 734) h dL_law_734 rfl ?_
  refine y_iconst (pc := 736) h dL_law_736 ?_
  refine y_iadd (pc := 737) h dL_law_737 ?_
  refine l_sld (pc := 738) h hS (by omega) (by omega) hL dL_law_738 ?_
  refine y_aload_n (pc := 739) h dL_law_739 rfl ?_
  refine y_iload (pc := 740) h dL_law_740 rfl ?_
  refine y_iconst (pc := 742) h dL_law_742 ?_
  refine y_iadd (pc := 743) h dL_law_743 ?_
  refine l_sld (pc := 744) h hS (by omega) (by omega) hL dL_law_744 ?_
  refine y_callV (pc := 745) (o := 31) (c := 8) (np := 2) (st := [zI v]) h (lE_of hT) (yF0' hF) hm (by decide) rfl rfl mv_X8_staged ml_L_99 rfl dL_law_745 rfl (Nat.le_of_ble_eq_true rfl) (fun r2 τ2 q2 => ?_)
  obtain ⟨rfl, hr⟩ := q2
  refine l_eqv (pc := 748) (tgt := 1042) h dL_law_748 rfl ?_
  exact l_widen (Nat.le_add_right _ _) (Nat.le_add_right _ _) (kk τ2 v0 hr)
theorem lc_at {x : zX} {nc ns : Nat} {Q : State → Prop} {σ : zS} {cL : ClassId} {v0 : Int64} {L : Nat} {xs : Nat → Int32} {i : Int} (h : yH x RL cL_law 7 12) (hT : lT x cL) (hF : yF x (nc + 1) (ns + 6)) (hS : lS x L xs) (hL : L ≤ 2048) (h0 : 0 ≤ i) (h1 : i + 4 ≤ L) (hR : REL σ) (kk : ∀ τ v, REL τ → yW x (lA x) (lEx x cL v) (nc + 1) (ns + 6) Q 1042 (lls i) [] τ) : yW x (lA x) (lEx x cL v0) nc ns Q 753 (lls i) [] σ := by
  refine y_aload_n (pc := 753) h dL_law_753 rfl ?_
  refine y_aload_n (pc := 754) h dL_law_754 rfl ?_
  refine y_iload (pc := 755) h dL_law_755 rfl ?_
  refine y_iconst (pc := 757) h dL_law_757 ?_
  refine y_iadd (pc := 758) h dL_law_758 ?_
  refine l_sld (pc := 759) h hS (by omega) (by omega) hL dL_law_759 ?_
  refine y_aload_n (pc := 760) h dL_law_760 rfl ?_
  refine y_iload (pc := 761) h dL_law_761 rfl ?_
  refine y_iconst (pc := 763) h dL_law_763 ?_
  refine y_iadd (pc := 764) h dL_law_764 ?_
  refine l_sld (pc := 765) h hS (by omega) (by omega) hL dL_law_765 ?_
  refine y_callV (pc := 766) (o := 0) (c := 7) (np := 2) (st := []) h (lE_of hT) (yF0' hF) (J_at hR (zin_v (xs (i + 1).toNat)) (zin_v (xs (i + 2).toNat))) (by decide) rfl rfl mv_X7_at ml_L_100 rfl dL_law_766 rfl (Nat.le_of_ble_eq_true rfl) (fun r τ q => ?_)
  obtain ⟨v, rfl, hm⟩ := q
  refine y_aload_n (pc := 769) h dL_law_769 rfl ?_
  refine y_aload_n (pc := 770) h dL_law_770 rfl ?_
  refine y_iload (pc := 771) h dL_law_771 rfl ?_
  refine y_iconst (pc := 773) h dL_law_773 ?_
  refine y_iadd (pc := 774) h dL_law_774 ?_
  refine l_sld (pc := 775) h hS (by omega) (by omega) hL dL_law_775 ?_
  refine y_aload_n (pc := 776) h dL_law_776 rfl ?_
  refine y_iload (pc := 777) h dL_law_777 rfl ?_
  refine y_iconst (pc := 779) h dL_law_779 ?_
  refine y_iadd (pc := 780) h dL_law_780 ?_
  refine l_sld (pc := 781) h hS (by omega) (by omega) hL dL_law_781 ?_
  refine y_callV (pc := 782) (o := 31) (c := 8) (np := 2) (st := [zI v]) h (lE_of hT) (yF0' hF) hm (by decide) rfl rfl mv_X8_at ml_L_103 rfl dL_law_782 rfl (Nat.le_of_ble_eq_true rfl) (fun r2 τ2 q2 => ?_)
  obtain ⟨rfl, hr⟩ := q2
  refine l_eqv (pc := 785) (tgt := 1042) h dL_law_785 rfl ?_
  exact l_widen (Nat.le_add_right _ _) (Nat.le_add_right _ _) (kk τ2 v0 hr)
theorem lc_travel {x : zX} {nc ns : Nat} {Q : State → Prop} {σ : zS} {cL : ClassId} {v0 : Int64} {L : Nat} {xs : Nat → Int32} {i : Int} (h : yH x RL cL_law 7 12) (hT : lT x cL) (hF : yF x (nc + 1) (ns + 6)) (hS : lS x L xs) (hL : L ≤ 2048) (h0 : 0 ≤ i) (h1 : i + 4 ≤ L) (hR : REL σ) (kk : ∀ τ v, REL τ → yW x (lA x) (lEx x cL v) (nc + 1) (ns + 6) Q 1042 (lls i) [] τ) : yW x (lA x) (lEx x cL v0) nc ns Q 790 (lls i) [] σ := by
  refine y_aload_n (pc := 790) h dL_law_790 rfl ?_
  refine y_aload_n (pc := 791) h dL_law_791 rfl ?_
  refine y_iload (pc := 792) h dL_law_792 rfl ?_
  refine y_iconst (pc := 794) h dL_law_794 ?_
  refine y_iadd (pc := 795) h dL_law_795 ?_
  refine l_sld (pc := 796) h hS (by omega) (by omega) hL dL_law_796 ?_
  refine y_aload_n (pc := 797) h dL_law_797 rfl ?_
  refine y_iload (pc := 798) h dL_law_798 rfl ?_
  refine y_iconst (pc := 800) h dL_law_800 ?_
  refine y_iadd (pc := 801) h dL_law_801 ?_
  refine l_sld (pc := 802) h hS (by omega) (by omega) hL dL_law_802 ?_
  refine y_callV (pc := 803) (o := 0) (c := 7) (np := 2) (st := []) h (lE_of hT) (yF0' hF) (J_travel hR (zin_v (xs (i + 1).toNat)) (zin_v (xs (i + 2).toNat))) (by decide) rfl rfl mv_X7_travel ml_L_104 rfl dL_law_803 rfl (Nat.le_of_ble_eq_true rfl) (fun r τ q => ?_)
  obtain ⟨v, rfl, hm⟩ := q
  refine y_aload_n (pc := 806) h dL_law_806 rfl ?_
  refine y_aload_n (pc := 807) h dL_law_807 rfl ?_
  refine y_iload (pc := 808) h dL_law_808 rfl ?_
  refine y_iconst (pc := 810) h dL_law_810 ?_
  refine y_iadd (pc := 811) h dL_law_811 ?_
  refine l_sld (pc := 812) h hS (by omega) (by omega) hL dL_law_812 ?_
  refine y_aload_n (pc := 813) h dL_law_813 rfl ?_
  refine y_iload (pc := 814) h dL_law_814 rfl ?_
  refine y_iconst (pc := 816) h dL_law_816 ?_
  refine y_iadd (pc := 817) h dL_law_817 ?_
  refine l_sld (pc := 818) h hS (by omega) (by omega) hL dL_law_818 ?_
  refine y_callV (pc := 819) (o := 31) (c := 8) (np := 2) (st := [zI v]) h (lE_of hT) (yF0' hF) hm (by decide) rfl rfl mv_X8_travel ml_L_107 rfl dL_law_819 rfl (Nat.le_of_ble_eq_true rfl) (fun r2 τ2 q2 => ?_)
  obtain ⟨rfl, hr⟩ := q2
  refine l_eqv (pc := 822) (tgt := 1042) h dL_law_822 rfl ?_
  exact l_widen (Nat.le_add_right _ _) (Nat.le_add_right _ _) (kk τ2 v0 hr)
theorem lc_would {x : zX} {nc ns : Nat} {Q : State → Prop} {σ : zS} {cL : ClassId} {v0 : Int64} {L : Nat} {xs : Nat → Int32} {i : Int} (h : yH x RL cL_law 7 12) (hT : lT x cL) (hF : yF x (nc + 1) (ns + 6)) (hS : lS x L xs) (hL : L ≤ 2048) (h0 : 0 ≤ i) (h1 : i + 4 ≤ L) (hR : REL σ) (kk : ∀ τ v, REL τ → yW x (lA x) (lEx x cL v) (nc + 1) (ns + 6) Q 1042 (lls i) [] τ) : yW x (lA x) (lEx x cL v0) nc ns Q 827 (lls i) [] σ := by
  refine y_aload_n (pc := 827) h dL_law_827 rfl ?_
  refine y_aload_n (pc := 828) h dL_law_828 rfl ?_
  refine y_iload (pc := 829) h dL_law_829 rfl ?_
  refine y_iconst (pc := 831) h dL_law_831 ?_
  refine y_iadd (pc := 832) h dL_law_832 ?_
  refine l_sld (pc := 833) h hS (by omega) (by omega) hL dL_law_833 ?_
  refine y_aload_n (pc := 834) h dL_law_834 rfl ?_
  refine y_iload (pc := 835) h dL_law_835 rfl ?_
  refine y_iconst (pc := 837) h dL_law_837 ?_
  refine y_iadd (pc := 838) h dL_law_838 ?_
  refine l_sld (pc := 839) h hS (by omega) (by omega) hL dL_law_839 ?_
  refine y_aload_n (pc := 840) h dL_law_840 rfl ?_
  refine y_iload (pc := 841) h dL_law_841 rfl ?_
  refine y_iconst (pc := 843) h dL_law_843 ?_
  refine y_iadd (pc := 844) h dL_law_844 ?_
  refine l_sld (pc := 845) h hS (by omega) (by omega) hL dL_law_845 ?_
  refine y_callV (pc := 846) (o := 0) (c := 7) (np := 3) (st := []) h (lE_of hT) (yF0' hF) (J_would hR (zin_v (xs (i + 1).toNat)) (zin_v (xs (i + 2).toNat)) (zin_v (xs (i + 3).toNat))) (by decide) rfl rfl mv_X7_would ml_L_108 rfl dL_law_846 rfl (Nat.le_of_ble_eq_true rfl) (fun r τ q => ?_)
  obtain ⟨v, rfl, hm⟩ := q
  refine y_aload_n (pc := 849) h dL_law_849 rfl ?_
  refine y_aload_n (pc := 850) h dL_law_850 rfl ?_
  refine y_iload (pc := 851) h dL_law_851 rfl ?_
  refine y_iconst (pc := 853) h dL_law_853 ?_
  refine y_iadd (pc := 854) h dL_law_854 ?_
  refine l_sld (pc := 855) h hS (by omega) (by omega) hL dL_law_855 ?_
  refine y_aload_n (pc := 856) h dL_law_856 rfl ?_
  refine y_iload (pc := 857) h dL_law_857 rfl ?_
  refine y_iconst (pc := 859) h dL_law_859 ?_
  refine y_iadd (pc := 860) h dL_law_860 ?_
  refine l_sld (pc := 861) h hS (by omega) (by omega) hL dL_law_861 ?_
  refine y_aload_n (pc := 862) h dL_law_862 rfl ?_
  refine y_iload (pc := 863) h dL_law_863 rfl ?_
  refine y_iconst (pc := 865) h dL_law_865 ?_
  refine y_iadd (pc := 866) h dL_law_866 ?_
  refine l_sld (pc := 867) h hS (by omega) (by omega) hL dL_law_867 ?_
  refine y_callV (pc := 868) (o := 31) (c := 8) (np := 3) (st := [zI v]) h (lE_of hT) (yF0' hF) hm (by decide) rfl rfl mv_X8_would ml_L_111 rfl dL_law_868 rfl (Nat.le_of_ble_eq_true rfl) (fun r2 τ2 q2 => ?_)
  obtain ⟨rfl, hr⟩ := q2
  refine l_eqv (pc := 871) (tgt := 1042) h dL_law_871 rfl ?_
  exact l_widen (Nat.le_add_right _ _) (Nat.le_add_right _ _) (kk τ2 v0 hr)
theorem lc_delayed {x : zX} {nc ns : Nat} {Q : State → Prop} {σ : zS} {cL : ClassId} {v0 : Int64} {L : Nat} {xs : Nat → Int32} {i : Int} (h : yH x RL cL_law 7 12) (hT : lT x cL) (hF : yF x (nc + 1) (ns + 6)) (hS : lS x L xs) (hL : L ≤ 2048) (h0 : 0 ≤ i) (h1 : i + 4 ≤ L) (hR : REL σ) (kk : ∀ τ v, REL τ → yW x (lA x) (lEx x cL v) (nc + 1) (ns + 6) Q 1042 (lls i) [] τ) : yW x (lA x) (lEx x cL v0) nc ns Q 876 (lls i) [] σ := by
  refine y_aload_n (pc := 876) h dL_law_876 rfl ?_
  refine y_aload_n (pc := 877) h dL_law_877 rfl ?_
  refine y_iload (pc := 878) h dL_law_878 rfl ?_
  refine y_iconst (pc := 880) h dL_law_880 ?_
  refine y_iadd (pc := 881) h dL_law_881 ?_
  refine l_sld (pc := 882) h hS (by omega) (by omega) hL dL_law_882 ?_
  refine y_aload_n (pc := 883) h dL_law_883 rfl ?_
  refine y_iload (pc := 884) h dL_law_884 rfl ?_
  refine y_iconst (pc := 886) h dL_law_886 ?_
  refine y_iadd (pc := 887) h dL_law_887 ?_
  refine l_sld (pc := 888) h hS (by omega) (by omega) hL dL_law_888 ?_
  refine y_callV (pc := 889) (o := 0) (c := 7) (np := 2) (st := []) h (lE_of hT) (yF0' hF) (J_delayed hR (zin_v (xs (i + 1).toNat)) (zin_v (xs (i + 2).toNat))) (by decide) rfl rfl mv_X7_delayed ml_L_112 rfl dL_law_889 rfl (Nat.le_of_ble_eq_true rfl) (fun r τ q => ?_)
  obtain ⟨v, rfl, hm⟩ := q
  refine y_aload_n (pc := 892) h dL_law_892 rfl ?_
  refine y_aload_n (pc := 893) h dL_law_893 rfl ?_
  refine y_iload (pc := 894) h dL_law_894 rfl ?_
  refine y_iconst (pc := 896) h dL_law_896 ?_
  refine y_iadd (pc := 897) h dL_law_897 ?_
  refine l_sld (pc := 898) h hS (by omega) (by omega) hL dL_law_898 ?_
  refine y_aload_n (pc := 899) h dL_law_899 rfl ?_
  refine y_iload (pc := 900) h dL_law_900 rfl ?_
  refine y_iconst (pc := 902) h dL_law_902 ?_
  refine y_iadd (pc := 903) h dL_law_903 ?_
  refine l_sld (pc := 904) h hS (by omega) (by omega) hL dL_law_904 ?_
  refine y_callV (pc := 905) (o := 31) (c := 8) (np := 2) (st := [zI v]) h (lE_of hT) (yF0' hF) hm (by decide) rfl rfl mv_X8_delayed ml_L_115 rfl dL_law_905 rfl (Nat.le_of_ble_eq_true rfl) (fun r2 τ2 q2 => ?_)
  obtain ⟨rfl, hr⟩ := q2
  refine l_eqv (pc := 908) (tgt := 1042) h dL_law_908 rfl ?_
  exact l_widen (Nat.le_add_right _ _) (Nat.le_add_right _ _) (kk τ2 v0 hr)
theorem lc_roomy {x : zX} {nc ns : Nat} {Q : State → Prop} {σ : zS} {cL : ClassId} {v0 : Int64} {L : Nat} {xs : Nat → Int32} {i : Int} (h : yH x RL cL_law 7 12) (hT : lT x cL) (hF : yF x (nc + 1) (ns + 6)) (hS : lS x L xs) (hL : L ≤ 2048) (h0 : 0 ≤ i) (h1 : i + 4 ≤ L) (hR : REL σ) (kk : ∀ τ v, REL τ → yW x (lA x) (lEx x cL v) (nc + 1) (ns + 6) Q 1042 (lls i) [] τ) : yW x (lA x) (lEx x cL v0) nc ns Q 913 (lls i) [] σ := by
  refine y_aload_n (pc := 913) h dL_law_913 rfl ?_
  refine y_aload_n (pc := 914) h dL_law_914 rfl ?_
  refine y_iload (pc := 915) h dL_law_915 rfl ?_
  refine y_iconst (pc := 917) h dL_law_917 ?_
  refine y_iadd (pc := 918) h dL_law_918 ?_
  refine l_sld (pc := 919) h hS (by omega) (by omega) hL dL_law_919 ?_
  refine y_callV (pc := 920) (o := 0) (c := 7) (np := 1) (st := []) h (lE_of hT) (yF0' hF) (J_roomy hR (zin_v (xs (i + 1).toNat))) (by decide) rfl rfl mv_X7_roomy ml_L_116 rfl dL_law_920 rfl (Nat.le_of_ble_eq_true rfl) (fun r τ q => ?_)
  obtain ⟨v, rfl, hm⟩ := q
  refine y_aload_n (pc := 923) h dL_law_923 rfl ?_
  refine y_aload_n (pc := 924) h dL_law_924 rfl ?_
  refine y_iload (pc := 925) h dL_law_925 rfl ?_
  refine y_iconst (pc := 927) h dL_law_927 ?_
  refine y_iadd (pc := 928) h dL_law_928 ?_
  refine l_sld (pc := 929) h hS (by omega) (by omega) hL dL_law_929 ?_
  refine y_callV (pc := 930) (o := 31) (c := 8) (np := 1) (st := [zI v]) h (lE_of hT) (yF0' hF) hm (by decide) rfl rfl mv_X8_roomy ml_L_119 rfl dL_law_930 rfl (Nat.le_of_ble_eq_true rfl) (fun r2 τ2 q2 => ?_)
  obtain ⟨rfl, hr⟩ := q2
  refine l_eqv (pc := 933) (tgt := 1042) h dL_law_933 rfl ?_
  exact l_widen (Nat.le_add_right _ _) (Nat.le_add_right _ _) (kk τ2 v0 hr)
theorem lc_least {x : zX} {nc ns : Nat} {Q : State → Prop} {σ : zS} {cL : ClassId} {v0 : Int64} {L : Nat} {xs : Nat → Int32} {i : Int} (h : yH x RL cL_law 7 12) (hT : lT x cL) (hF : yF x (nc + 1) (ns + 6)) (hS : lS x L xs) (hL : L ≤ 2048) (h0 : 0 ≤ i) (h1 : i + 4 ≤ L) (hR : REL σ) (kk : ∀ τ v, REL τ → yW x (lA x) (lEx x cL v) (nc + 1) (ns + 6) Q 1042 (lls i) [] τ) : yW x (lA x) (lEx x cL v0) nc ns Q 938 (lls i) [] σ := by
  refine y_aload_n (pc := 938) h dL_law_938 rfl ?_
  refine y_callV (pc := 939) (o := 0) (c := 7) (np := 0) (st := []) h (lE_of hT) (yF0' hF) (J_least hR) (by decide) rfl rfl mv_X7_least ml_L_120 rfl dL_law_939 rfl (Nat.le_of_ble_eq_true rfl) (fun r τ q => ?_)
  obtain ⟨v, rfl, hm⟩ := q
  refine y_aload_n (pc := 942) h dL_law_942 rfl ?_
  refine y_callV (pc := 943) (o := 31) (c := 8) (np := 0) (st := [zI v]) h (lE_of hT) (yF0' hF) hm (by decide) rfl rfl mv_X8_least ml_L_123 rfl dL_law_943 rfl (Nat.le_of_ble_eq_true rfl) (fun r2 τ2 q2 => ?_)
  obtain ⟨rfl, hr⟩ := q2
  refine l_eqv (pc := 946) (tgt := 1042) h dL_law_946 rfl ?_
  exact l_widen (Nat.le_add_right _ _) (Nat.le_add_right _ _) (kk τ2 v0 hr)
theorem lc_moves {x : zX} {nc ns : Nat} {Q : State → Prop} {σ : zS} {cL : ClassId} {v0 : Int64} {L : Nat} {xs : Nat → Int32} {i : Int} (h : yH x RL cL_law 7 12) (hT : lT x cL) (hF : yF x (nc + 1) (ns + 6)) (hS : lS x L xs) (hL : L ≤ 2048) (h0 : 0 ≤ i) (h1 : i + 4 ≤ L) (hR : REL σ) (kk : ∀ τ v, REL τ → yW x (lA x) (lEx x cL v) (nc + 1) (ns + 6) Q 1042 (lls i) [] τ) : yW x (lA x) (lEx x cL v0) nc ns Q 951 (lls i) [] σ := by
  by_cases hb : (xs (i + 1).toNat).toInt = 0
  · refine y_aload_n (pc := 951) h dL_law_951 rfl ?_
    refine y_aload_n (pc := 952) h dL_law_952 rfl ?_
    refine y_iload (pc := 953) h dL_law_953 rfl ?_
    refine y_iconst (pc := 955) h dL_law_955 ?_
    refine y_iadd (pc := 956) h dL_law_956 ?_
    refine l_sld (pc := 957) h hS (by omega) (by omega) hL dL_law_957 ?_
    refine y_if_eq (pc := 958) (tgt := 965) h (zin_v _) dL_law_958 rfl (fun _ => ?_) (fun c => absurd hb c)
    refine y_iconst (pc := 965) h dL_law_965 ?_
    refine y_callV (pc := 966) (o := 0) (c := 7) (np := 1) (st := []) h (lE_of hT) (yF0' hF) (J_moves (z := false) hR) (by decide) rfl rfl mv_X7_moves ml_L_124 rfl dL_law_966 rfl (Nat.le_of_ble_eq_true rfl) (fun r τ q => ?_)
    obtain ⟨v, rfl, hm⟩ := q
    refine y_aload_n (pc := 969) h dL_law_969 rfl ?_
    refine y_aload_n (pc := 970) h dL_law_970 rfl ?_
    refine y_iload (pc := 971) h dL_law_971 rfl ?_
    refine y_iconst (pc := 973) h dL_law_973 ?_
    refine y_iadd (pc := 974) h dL_law_974 ?_
    refine l_sld (pc := 975) h hS (by omega) (by omega) hL dL_law_975 ?_
    refine y_if_eq (pc := 976) (tgt := 983) h (zin_v _) dL_law_976 rfl (fun _ => ?_) (fun c => absurd hb c)
    refine y_iconst (pc := 983) h dL_law_983 ?_
    refine y_callV (pc := 984) (o := 31) (c := 8) (np := 1) (st := [zI v]) h (lE_of hT) (yF0' hF) hm (by decide) rfl rfl mv_X8_moves ml_L_127 rfl dL_law_984 rfl (Nat.le_of_ble_eq_true rfl) (fun r2 τ2 q2 => ?_)
    obtain ⟨rfl, hr⟩ := q2
    refine l_eqv (pc := 987) (tgt := 1042) h dL_law_987 rfl ?_
    exact l_widen (Nat.le_add_right _ _) (Nat.le_add_right _ _) (kk τ2 v0 hr)
  · refine y_aload_n (pc := 951) h dL_law_951 rfl ?_
    refine y_aload_n (pc := 952) h dL_law_952 rfl ?_
    refine y_iload (pc := 953) h dL_law_953 rfl ?_
    refine y_iconst (pc := 955) h dL_law_955 ?_
    refine y_iadd (pc := 956) h dL_law_956 ?_
    refine l_sld (pc := 957) h hS (by omega) (by omega) hL dL_law_957 ?_
    refine y_if_eq (pc := 958) (tgt := 965) h (zin_v _) dL_law_958 rfl (fun c => absurd c hb) (fun _ => ?_)
    refine y_iconst (pc := 961) h dL_law_961 ?_
    refine y_goto (pc := 962) (tgt := 966) h dL_law_962 rfl ?_
    refine y_callV (pc := 966) (o := 0) (c := 7) (np := 1) (st := []) h (lE_of hT) (yF0' hF) (J_moves (z := true) hR) (by decide) rfl rfl mv_X7_moves ml_L_124 rfl dL_law_966 rfl (Nat.le_of_ble_eq_true rfl) (fun r τ q => ?_)
    obtain ⟨v, rfl, hm⟩ := q
    refine y_aload_n (pc := 969) h dL_law_969 rfl ?_
    refine y_aload_n (pc := 970) h dL_law_970 rfl ?_
    refine y_iload (pc := 971) h dL_law_971 rfl ?_
    refine y_iconst (pc := 973) h dL_law_973 ?_
    refine y_iadd (pc := 974) h dL_law_974 ?_
    refine l_sld (pc := 975) h hS (by omega) (by omega) hL dL_law_975 ?_
    refine y_if_eq (pc := 976) (tgt := 983) h (zin_v _) dL_law_976 rfl (fun c => absurd c hb) (fun _ => ?_)
    refine y_iconst (pc := 979) h dL_law_979 ?_
    refine y_goto (pc := 980) (tgt := 984) h dL_law_980 rfl ?_
    refine y_callV (pc := 984) (o := 31) (c := 8) (np := 1) (st := [zI v]) h (lE_of hT) (yF0' hF) hm (by decide) rfl rfl mv_X8_moves ml_L_127 rfl dL_law_984 rfl (Nat.le_of_ble_eq_true rfl) (fun r2 τ2 q2 => ?_)
    obtain ⟨rfl, hr⟩ := q2
    refine l_eqv (pc := 987) (tgt := 1042) h dL_law_987 rfl ?_
    exact l_widen (Nat.le_add_right _ _) (Nat.le_add_right _ _) (kk τ2 v0 hr)
theorem lc_image {x : zX} {nc ns : Nat} {Q : State → Prop} {σ : zS} {cL : ClassId} {v0 : Int64} {L : Nat} {xs : Nat → Int32} {i : Int} (h : yH x RL cL_law 7 12) (hT : lT x cL) (hF : yF x (nc + 1) (ns + 6)) (hS : lS x L xs) (hL : L ≤ 2048) (h0 : 0 ≤ i) (h1 : i + 4 ≤ L) (hR : REL σ) (kk : ∀ τ v, REL τ → yW x (lA x) (lEx x cL v) (nc + 1) (ns + 6) Q 1042 (lls i) [] τ) : yW x (lA x) (lEx x cL v0) nc ns Q 992 (lls i) [] σ := by
  refine y_aload_n (pc := 992) h dL_law_992 rfl ?_
  refine y_aload_n (pc := 993) h dL_law_993 rfl ?_
  refine y_iload (pc := 994) h dL_law_994 rfl ?_
  refine y_iconst (pc := 996) h dL_law_996 ?_
  refine y_iadd (pc := 997) h dL_law_997 ?_
  refine l_sld (pc := 998) h hS (by omega) (by omega) hL dL_law_998 ?_
  refine y_callV (pc := 999) (o := 0) (c := 7) (np := 1) (st := []) h (lE_of hT) (yF0' hF) (J_image hR (zin_v (xs (i + 1).toNat))) (by decide) rfl rfl mv_X7_image ml_L_128 rfl dL_law_999 rfl (Nat.le_of_ble_eq_true rfl) (fun r τ q => ?_)
  obtain ⟨v, rfl, hm⟩ := q
  refine y_aload_n (pc := 1002) h dL_law_1002 rfl ?_
  refine y_aload_n (pc := 1003) h dL_law_1003 rfl ?_
  refine y_iload (pc := 1004) h dL_law_1004 rfl ?_
  refine y_iconst (pc := 1006) h dL_law_1006 ?_
  refine y_iadd (pc := 1007) h dL_law_1007 ?_
  refine l_sld (pc := 1008) h hS (by omega) (by omega) hL dL_law_1008 ?_
  refine y_callV (pc := 1009) (o := 31) (c := 8) (np := 1) (st := [zI v]) h (lE_of hT) (yF0' hF) hm (by decide) rfl rfl mv_X8_image ml_L_131 rfl dL_law_1009 rfl (Nat.le_of_ble_eq_true rfl) (fun r2 τ2 q2 => ?_)
  obtain ⟨rfl, hr⟩ := q2
  refine l_eqv (pc := 1012) (tgt := 1042) h dL_law_1012 rfl ?_
  exact l_widen (Nat.le_add_right _ _) (Nat.le_add_right _ _) (kk τ2 v0 hr)
theorem lc_again {x : zX} {nc ns : Nat} {Q : State → Prop} {σ : zS} {cL : ClassId} {v0 : Int64} {L : Nat} {xs : Nat → Int32} {i : Int} (h : yH x RL cL_law 7 12) (hT : lT x cL) (hF : yF x (nc + 1) (ns + 6)) (hS : lS x L xs) (hL : L ≤ 2048) (h0 : 0 ≤ i) (h1 : i + 4 ≤ L) (hR : REL σ) (kk : ∀ τ v, REL τ → yW x (lA x) (lEx x cL v) (nc + 1) (ns + 6) Q 1042 (lls i) [] τ) : yW x (lA x) (lEx x cL v0) nc ns Q 1017 (lls i) [] σ := by
  refine y_aload_n (pc := 1017) h dL_law_1017 rfl ?_
  refine y_aload_n (pc := 1018) h dL_law_1018 rfl ?_
  refine y_iload (pc := 1019) h dL_law_1019 rfl ?_
  refine y_iconst (pc := 1021) h dL_law_1021 ?_
  refine y_iadd (pc := 1022) h dL_law_1022 ?_
  refine l_sld (pc := 1023) h hS (by omega) (by omega) hL dL_law_1023 ?_
  refine y_callV (pc := 1024) (o := 0) (c := 7) (np := 1) (st := []) h (lE_of hT) (yF0' hF) (J_again hR (zin_v (xs (i + 1).toNat))) (by decide) rfl rfl mv_X7_again ml_L_132 rfl dL_law_1024 rfl (Nat.le_of_ble_eq_true rfl) (fun r τ q => ?_)
  obtain ⟨v, rfl, hm⟩ := q
  refine y_aload_n (pc := 1027) h dL_law_1027 rfl ?_
  refine y_aload_n (pc := 1028) h dL_law_1028 rfl ?_
  refine y_iload (pc := 1029) h dL_law_1029 rfl ?_
  refine y_iconst (pc := 1031) h dL_law_1031 ?_
  refine y_iadd (pc := 1032) h dL_law_1032 ?_
  refine l_sld (pc := 1033) h hS (by omega) (by omega) hL dL_law_1033 ?_
  refine y_callV (pc := 1034) (o := 31) (c := 8) (np := 1) (st := [zI v]) h (lE_of hT) (yF0' hF) hm (by decide) rfl rfl mv_X8_again ml_L_135 rfl dL_law_1034 rfl (Nat.le_of_ble_eq_true rfl) (fun r2 τ2 q2 => ?_)
  obtain ⟨rfl, hr⟩ := q2
  refine l_eqv (pc := 1037) (tgt := 1042) h dL_law_1037 rfl ?_
  exact l_widen (Nat.le_add_right _ _) (Nat.le_add_right _ _) (kk τ2 v0 hr)
