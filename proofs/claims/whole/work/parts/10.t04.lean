set_option maxRecDepth 100000 in
theorem tw_668 : Cond.methodLink RX10 120 yX4_come ∈ lw_tbl := List.mem_of_getElem? (i := 668) (by decide +kernel)
set_option maxRecDepth 100000 in
theorem tw_669 : Cond.instanceMethod yX4_come ∈ lw_tbl := List.mem_of_getElem? (i := 669) (by decide +kernel)
set_option maxRecDepth 100000 in
theorem tw_670 : Cond.selects RX4 yX4_come yX4_come ∈ lw_tbl := List.mem_of_getElem? (i := 670) (by decide +kernel)
set_option maxRecDepth 100000 in
theorem tw_671 : Cond.code yX4_come cX4_come 6 none ∈ lw_tbl := List.mem_of_getElem? (i := 671) (by decide +kernel)
set_option maxRecDepth 100000 in
theorem tw_672 : Cond.methodLink RL 52 yX10_leave ∈ lw_tbl := List.mem_of_getElem? (i := 672) (by decide +kernel)
set_option maxRecDepth 100000 in
theorem tw_673 : Cond.instanceMethod yX10_leave ∈ lw_tbl := List.mem_of_getElem? (i := 673) (by decide +kernel)
set_option maxRecDepth 100000 in
theorem tw_674 : Cond.selects RX10 yX10_leave yX10_leave ∈ lw_tbl := List.mem_of_getElem? (i := 674) (by decide +kernel)
set_option maxRecDepth 100000 in
theorem tw_675 : Cond.code yX10_leave cX10_leave 4 (some .boolean) ∈ lw_tbl := List.mem_of_getElem? (i := 675) (by decide +kernel)
set_option maxRecDepth 100000 in
theorem tw_676 : Cond.methodLink RL 56 yX10_look ∈ lw_tbl := List.mem_of_getElem? (i := 676) (by decide +kernel)
set_option maxRecDepth 100000 in
theorem tw_677 : Cond.instanceMethod yX10_look ∈ lw_tbl := List.mem_of_getElem? (i := 677) (by decide +kernel)
set_option maxRecDepth 100000 in
theorem tw_678 : Cond.selects RX10 yX10_look yX10_look ∈ lw_tbl := List.mem_of_getElem? (i := 678) (by decide +kernel)
set_option maxRecDepth 100000 in
theorem tw_679 : Cond.code yX10_look cX10_look 2 (some .int) ∈ lw_tbl := List.mem_of_getElem? (i := 679) (by decide +kernel)
set_option maxRecDepth 100000 in
theorem tw_680 : Cond.methodLink RX10 130 yX9_countThere ∈ lw_tbl := List.mem_of_getElem? (i := 680) (by decide +kernel)
set_option maxRecDepth 100000 in
theorem tw_681 : Cond.instanceMethod yX9_countThere ∈ lw_tbl := List.mem_of_getElem? (i := 681) (by decide +kernel)
set_option maxRecDepth 100000 in
theorem tw_682 : Cond.selects RX9 yX9_countThere yX9_countThere ∈ lw_tbl := List.mem_of_getElem? (i := 682) (by decide +kernel)
set_option maxRecDepth 100000 in
theorem tw_683 : Cond.code yX9_countThere cX9_countThere 4 (some .int) ∈ lw_tbl := List.mem_of_getElem? (i := 683) (by decide +kernel)
set_option maxRecDepth 100000 in
theorem tw_684 : Cond.methodLink RX9 57 yX9_isThere ∈ lw_tbl := List.mem_of_getElem? (i := 684) (by decide +kernel)
set_option maxRecDepth 100000 in
theorem tw_685 : Cond.instanceMethod yX9_isThere ∈ lw_tbl := List.mem_of_getElem? (i := 685) (by decide +kernel)
set_option maxRecDepth 100000 in
theorem tw_686 : Cond.selects RX9 yX9_isThere yX9_isThere ∈ lw_tbl := List.mem_of_getElem? (i := 686) (by decide +kernel)
set_option maxRecDepth 100000 in
theorem tw_687 : Cond.code yX9_isThere cX9_isThere 3 (some .boolean) ∈ lw_tbl := List.mem_of_getElem? (i := 687) (by decide +kernel)
set_option maxRecDepth 100000 in
theorem tw_689 : Cond.methodLink RX10 134 yX9_countBottles ∈ lw_tbl := List.mem_of_getElem? (i := 689) (by decide +kernel)
set_option maxRecDepth 100000 in
theorem tw_690 : Cond.instanceMethod yX9_countBottles ∈ lw_tbl := List.mem_of_getElem? (i := 690) (by decide +kernel)
set_option maxRecDepth 100000 in
theorem tw_691 : Cond.selects RX9 yX9_countBottles yX9_countBottles ∈ lw_tbl := List.mem_of_getElem? (i := 691) (by decide +kernel)
set_option maxRecDepth 100000 in
theorem tw_692 : Cond.code yX9_countBottles cX9_countBottles 4 (some .int) ∈ lw_tbl := List.mem_of_getElem? (i := 692) (by decide +kernel)
set_option maxRecDepth 100000 in
theorem tw_693 : Cond.methodLink RL 60 yX10_plan ∈ lw_tbl := List.mem_of_getElem? (i := 693) (by decide +kernel)
set_option maxRecDepth 100000 in
theorem tw_694 : Cond.instanceMethod yX10_plan ∈ lw_tbl := List.mem_of_getElem? (i := 694) (by decide +kernel)
set_option maxRecDepth 100000 in
theorem tw_695 : Cond.selects RX10 yX10_plan yX10_plan ∈ lw_tbl := List.mem_of_getElem? (i := 695) (by decide +kernel)
set_option maxRecDepth 100000 in
theorem tw_696 : Cond.code yX10_plan cX10_plan 4 (some .int) ∈ lw_tbl := List.mem_of_getElem? (i := 696) (by decide +kernel)
set_option maxRecDepth 100000 in
theorem tw_697 : Cond.methodLink RX10 138 yX10_isToCome ∈ lw_tbl := List.mem_of_getElem? (i := 697) (by decide +kernel)
set_option maxRecDepth 100000 in
theorem tw_699 : Cond.instanceMethod yX10_isToCome ∈ lw_tbl := List.mem_of_getElem? (i := 699) (by decide +kernel)
set_option maxRecDepth 100000 in
theorem tw_700 : Cond.code yX10_isToCome cX10_isToCome 2 (some .boolean) ∈ lw_tbl := List.mem_of_getElem? (i := 700) (by decide +kernel)
set_option maxRecDepth 100000 in
theorem tw_701 : Cond.methodLink RX10 142 yX9_isThere ∈ lw_tbl := List.mem_of_getElem? (i := 701) (by decide +kernel)
set_option maxRecDepth 100000 in
theorem tw_702 : Cond.methodLink RX10 145 yX3_layOutByRank ∈ lw_tbl := List.mem_of_getElem? (i := 702) (by decide +kernel)
set_option maxRecDepth 100000 in
theorem tw_703 : Cond.instanceMethod yX3_layOutByRank ∈ lw_tbl := List.mem_of_getElem? (i := 703) (by decide +kernel)
set_option maxRecDepth 100000 in
theorem tw_704 : Cond.selects RX3 yX3_layOutByRank yX3_layOutByRank ∈ lw_tbl := List.mem_of_getElem? (i := 704) (by decide +kernel)
set_option maxRecDepth 100000 in
theorem tw_705 : Cond.code yX3_layOutByRank cX3_layOutByRank 5 none ∈ lw_tbl := List.mem_of_getElem? (i := 705) (by decide +kernel)
set_option maxRecDepth 100000 in
theorem tw_706 : Cond.methodLink RX3 27 yX3_clear ∈ lw_tbl := List.mem_of_getElem? (i := 706) (by decide +kernel)
set_option maxRecDepth 100000 in
theorem tw_707 : Cond.instanceMethod yX3_clear ∈ lw_tbl := List.mem_of_getElem? (i := 707) (by decide +kernel)
set_option maxRecDepth 100000 in
theorem tw_708 : Cond.selects RX3 yX3_clear yX3_clear ∈ lw_tbl := List.mem_of_getElem? (i := 708) (by decide +kernel)
set_option maxRecDepth 100000 in
theorem tw_709 : Cond.code yX3_clear cX3_clear 2 none ∈ lw_tbl := List.mem_of_getElem? (i := 709) (by decide +kernel)
set_option maxRecDepth 100000 in
theorem tw_710 : Cond.methodLink RX3 53 yJ7_fill_53178 ∈ lw_tbl := List.mem_of_getElem? (i := 710) (by decide +kernel)
set_option maxRecDepth 100000 in
theorem tw_711 : Cond.static yJ7_fill_53178 ∈ lw_tbl := List.mem_of_getElem? (i := 711) (by decide +kernel)
set_option maxRecDepth 100000 in
theorem tw_712 : Cond.code yJ7_fill_53178 cJ7_fill_53178 4 none ∈ lw_tbl := List.mem_of_getElem? (i := 712) (by decide +kernel)
set_option maxRecDepth 100000 in
theorem tw_713 : Cond.methodLink RX3 59 yJ7_fill_d0a16 ∈ lw_tbl := List.mem_of_getElem? (i := 713) (by decide +kernel)
set_option maxRecDepth 100000 in
theorem tw_714 : Cond.static yJ7_fill_d0a16 ∈ lw_tbl := List.mem_of_getElem? (i := 714) (by decide +kernel)
set_option maxRecDepth 100000 in
theorem tw_715 : Cond.code yJ7_fill_d0a16 cJ7_fill_d0a16 5 none ∈ lw_tbl := List.mem_of_getElem? (i := 715) (by decide +kernel)
set_option maxRecDepth 100000 in
theorem tw_716 : Cond.methodLink RX3 45 yX9_isThere ∈ lw_tbl := List.mem_of_getElem? (i := 716) (by decide +kernel)
set_option maxRecDepth 100000 in
theorem tw_717 : Cond.methodLink RX3 49 yX3_addGuest ∈ lw_tbl := List.mem_of_getElem? (i := 717) (by decide +kernel)
set_option maxRecDepth 100000 in
theorem tw_718 : Cond.instanceMethod yX3_addGuest ∈ lw_tbl := List.mem_of_getElem? (i := 718) (by decide +kernel)
set_option maxRecDepth 100000 in
theorem tw_719 : Cond.selects RX3 yX3_addGuest yX3_addGuest ∈ lw_tbl := List.mem_of_getElem? (i := 719) (by decide +kernel)
set_option maxRecDepth 100000 in
theorem tw_720 : Cond.code yX3_addGuest cX3_addGuest 9 none ∈ lw_tbl := List.mem_of_getElem? (i := 720) (by decide +kernel)
set_option maxRecDepth 100000 in
theorem tw_721 : Cond.methodLink RX3 75 yX5_clear ∈ lw_tbl := List.mem_of_getElem? (i := 721) (by decide +kernel)
set_option maxRecDepth 100000 in
theorem tw_722 : Cond.instanceMethod yX5_clear ∈ lw_tbl := List.mem_of_getElem? (i := 722) (by decide +kernel)
set_option maxRecDepth 100000 in
theorem tw_723 : Cond.selects RX5 yX5_clear yX5_clear ∈ lw_tbl := List.mem_of_getElem? (i := 723) (by decide +kernel)
set_option maxRecDepth 100000 in
theorem tw_724 : Cond.code yX5_clear cX5_clear 1 none ∈ lw_tbl := List.mem_of_getElem? (i := 724) (by decide +kernel)
set_option maxRecDepth 100000 in
theorem tw_725 : Cond.methodLink RX3 92 yX3_isMultiple ∈ lw_tbl := List.mem_of_getElem? (i := 725) (by decide +kernel)
set_option maxRecDepth 100000 in
theorem tw_726 : Cond.static yX3_isMultiple ∈ lw_tbl := List.mem_of_getElem? (i := 726) (by decide +kernel)
set_option maxRecDepth 100000 in
theorem tw_727 : Cond.code yX3_isMultiple cX3_isMultiple 2 (some .boolean) ∈ lw_tbl := List.mem_of_getElem? (i := 727) (by decide +kernel)
set_option maxRecDepth 100000 in
theorem tw_728 : Cond.methodLink RX3 101 yX3_addAct ∈ lw_tbl := List.mem_of_getElem? (i := 728) (by decide +kernel)
set_option maxRecDepth 100000 in
theorem tw_730 : Cond.instanceMethod yX3_addAct ∈ lw_tbl := List.mem_of_getElem? (i := 730) (by decide +kernel)
set_option maxRecDepth 100000 in
theorem tw_731 : Cond.code yX3_addAct cX3_addAct 7 none ∈ lw_tbl := List.mem_of_getElem? (i := 731) (by decide +kernel)
set_option maxRecDepth 100000 in
theorem tw_732 : Cond.methodLink RX3 128 yX3_addGlass ∈ lw_tbl := List.mem_of_getElem? (i := 732) (by decide +kernel)
set_option maxRecDepth 100000 in
theorem tw_734 : Cond.instanceMethod yX3_addGlass ∈ lw_tbl := List.mem_of_getElem? (i := 734) (by decide +kernel)
set_option maxRecDepth 100000 in
theorem tw_735 : Cond.code yX3_addGlass cX3_addGlass 6 none ∈ lw_tbl := List.mem_of_getElem? (i := 735) (by decide +kernel)
set_option maxRecDepth 100000 in
theorem tw_736 : Cond.methodLink RX3 147 Lib.Math.max.name ∈ lw_tbl := List.mem_of_getElem? (i := 736) (by decide +kernel)
set_option maxRecDepth 100000 in
theorem tw_737 : Cond.static Lib.Math.max.name ∈ lw_tbl := List.mem_of_getElem? (i := 737) (by decide +kernel)
set_option maxRecDepth 100000 in
theorem tw_738 : Cond.code Lib.Math.max.name Lib.Math.max.code 2 (some .int) ∈ lw_tbl := List.mem_of_getElem? (i := 738) (by decide +kernel)
set_option maxRecDepth 100000 in
theorem tw_739 : Cond.methodLink RX3 169 yX5_note ∈ lw_tbl := List.mem_of_getElem? (i := 739) (by decide +kernel)
set_option maxRecDepth 100000 in
theorem tw_740 : Cond.instanceMethod yX5_note ∈ lw_tbl := List.mem_of_getElem? (i := 740) (by decide +kernel)
set_option maxRecDepth 100000 in
theorem tw_741 : Cond.selects RX5 yX5_note yX5_note ∈ lw_tbl := List.mem_of_getElem? (i := 741) (by decide +kernel)
set_option maxRecDepth 100000 in
theorem tw_742 : Cond.code yX5_note cX5_note 5 none ∈ lw_tbl := List.mem_of_getElem? (i := 742) (by decide +kernel)
set_option maxRecDepth 100000 in
theorem tw_743 : Cond.methodLink RX3 136 yX3_addBath ∈ lw_tbl := List.mem_of_getElem? (i := 743) (by decide +kernel)
set_option maxRecDepth 100000 in
theorem tw_745 : Cond.instanceMethod yX3_addBath ∈ lw_tbl := List.mem_of_getElem? (i := 745) (by decide +kernel)
set_option maxRecDepth 100000 in
theorem tw_746 : Cond.code yX3_addBath cX3_addBath 7 none ∈ lw_tbl := List.mem_of_getElem? (i := 746) (by decide +kernel)
set_option maxRecDepth 100000 in
theorem tw_747 : Cond.methodLink RX3 118 yX3_bits ∈ lw_tbl := List.mem_of_getElem? (i := 747) (by decide +kernel)
set_option maxRecDepth 100000 in
theorem tw_748 : Cond.static yX3_bits ∈ lw_tbl := List.mem_of_getElem? (i := 748) (by decide +kernel)
set_option maxRecDepth 100000 in
theorem tw_749 : Cond.code yX3_bits cX3_bits 2 (some .long) ∈ lw_tbl := List.mem_of_getElem? (i := 749) (by decide +kernel)
set_option maxRecDepth 100000 in
theorem tw_750 : Cond.methodLink RX3 173 yX3_findFree ∈ lw_tbl := List.mem_of_getElem? (i := 750) (by decide +kernel)
set_option maxRecDepth 100000 in
theorem tw_752 : Cond.instanceMethod yX3_findFree ∈ lw_tbl := List.mem_of_getElem? (i := 752) (by decide +kernel)
set_option maxRecDepth 100000 in
theorem tw_753 : Cond.code yX3_findFree cX3_findFree 6 (some .int) ∈ lw_tbl := List.mem_of_getElem? (i := 753) (by decide +kernel)
set_option maxRecDepth 100000 in
theorem tw_754 : Cond.methodLink RX3 140 yX3_addRest ∈ lw_tbl := List.mem_of_getElem? (i := 754) (by decide +kernel)
set_option maxRecDepth 100000 in
theorem tw_755 : Cond.static yX3_addRest ∈ lw_tbl := List.mem_of_getElem? (i := 755) (by decide +kernel)
set_option maxRecDepth 100000 in
theorem tw_756 : Cond.code yX3_addRest cX3_addRest 2 none ∈ lw_tbl := List.mem_of_getElem? (i := 756) (by decide +kernel)
set_option maxRecDepth 100000 in
theorem tw_757 : Cond.methodLink RX10 153 yX5_tell ∈ lw_tbl := List.mem_of_getElem? (i := 757) (by decide +kernel)
set_option maxRecDepth 100000 in
theorem tw_758 : Cond.instanceMethod yX5_tell ∈ lw_tbl := List.mem_of_getElem? (i := 758) (by decide +kernel)
set_option maxRecDepth 100000 in
theorem tw_759 : Cond.selects RX5 yX5_tell yX5_tell ∈ lw_tbl := List.mem_of_getElem? (i := 759) (by decide +kernel)
set_option maxRecDepth 100000 in
theorem tw_760 : Cond.code yX5_tell cX5_tell 2 (some .int) ∈ lw_tbl := List.mem_of_getElem? (i := 760) (by decide +kernel)
set_option maxRecDepth 100000 in
theorem tw_761 : Cond.methodLink RX5 44 yX5_tellAct ∈ lw_tbl := List.mem_of_getElem? (i := 761) (by decide +kernel)
set_option maxRecDepth 100000 in
theorem tw_763 : Cond.instanceMethod yX5_tellAct ∈ lw_tbl := List.mem_of_getElem? (i := 763) (by decide +kernel)
set_option maxRecDepth 100000 in
theorem tw_764 : Cond.code yX5_tellAct cX5_tellAct 2 (some .int) ∈ lw_tbl := List.mem_of_getElem? (i := 764) (by decide +kernel)
set_option maxRecDepth 100000 in
theorem tw_765 : Cond.methodLink RL 65 yX10_taken ∈ lw_tbl := List.mem_of_getElem? (i := 765) (by decide +kernel)
set_option maxRecDepth 100000 in
theorem tw_766 : Cond.instanceMethod yX10_taken ∈ lw_tbl := List.mem_of_getElem? (i := 766) (by decide +kernel)
set_option maxRecDepth 100000 in
theorem tw_767 : Cond.selects RX10 yX10_taken yX10_taken ∈ lw_tbl := List.mem_of_getElem? (i := 767) (by decide +kernel)
set_option maxRecDepth 100000 in
theorem tw_768 : Cond.code yX10_taken cX10_taken 4 (some .int) ∈ lw_tbl := List.mem_of_getElem? (i := 768) (by decide +kernel)
set_option maxRecDepth 100000 in
theorem tw_769 : Cond.methodLink RL 69 yX10_best ∈ lw_tbl := List.mem_of_getElem? (i := 769) (by decide +kernel)
set_option maxRecDepth 100000 in
theorem tw_770 : Cond.instanceMethod yX10_best ∈ lw_tbl := List.mem_of_getElem? (i := 770) (by decide +kernel)
set_option maxRecDepth 100000 in
theorem tw_771 : Cond.selects RX10 yX10_best yX10_best ∈ lw_tbl := List.mem_of_getElem? (i := 771) (by decide +kernel)
set_option maxRecDepth 100000 in
theorem tw_772 : Cond.code yX10_best cX10_best 3 (some .int) ∈ lw_tbl := List.mem_of_getElem? (i := 772) (by decide +kernel)
set_option maxRecDepth 100000 in
theorem tw_773 : Cond.methodLink RX10 162 yX1_run ∈ lw_tbl := List.mem_of_getElem? (i := 773) (by decide +kernel)
set_option maxRecDepth 100000 in
theorem tw_774 : Cond.instanceMethod yX1_run ∈ lw_tbl := List.mem_of_getElem? (i := 774) (by decide +kernel)
set_option maxRecDepth 100000 in
theorem tw_775 : Cond.selects RX1 yX1_run yX1_run ∈ lw_tbl := List.mem_of_getElem? (i := 775) (by decide +kernel)
set_option maxRecDepth 100000 in
theorem tw_776 : Cond.code yX1_run cX1_run 4 none ∈ lw_tbl := List.mem_of_getElem? (i := 776) (by decide +kernel)
set_option maxRecDepth 100000 in
theorem tw_777 : Cond.methodLink RX1 47 yX3_clear ∈ lw_tbl := List.mem_of_getElem? (i := 777) (by decide +kernel)
set_option maxRecDepth 100000 in
theorem tw_778 : Cond.methodLink RX1 52 yX1_listGuests ∈ lw_tbl := List.mem_of_getElem? (i := 778) (by decide +kernel)
set_option maxRecDepth 100000 in
theorem tw_780 : Cond.instanceMethod yX1_listGuests ∈ lw_tbl := List.mem_of_getElem? (i := 780) (by decide +kernel)
set_option maxRecDepth 100000 in
theorem tw_781 : Cond.code yX1_listGuests cX1_listGuests 5 none ∈ lw_tbl := List.mem_of_getElem? (i := 781) (by decide +kernel)
set_option maxRecDepth 100000 in
theorem tw_782 : Cond.methodLink RX1 69 yX9_isThere ∈ lw_tbl := List.mem_of_getElem? (i := 782) (by decide +kernel)
set_option maxRecDepth 100000 in
theorem tw_783 : Cond.methodLink RX1 60 yX3_addGuest ∈ lw_tbl := List.mem_of_getElem? (i := 783) (by decide +kernel)
set_option maxRecDepth 100000 in
theorem tw_784 : Cond.methodLink RX1 85 yX3_removeGuest ∈ lw_tbl := List.mem_of_getElem? (i := 784) (by decide +kernel)
set_option maxRecDepth 100000 in
theorem tw_785 : Cond.instanceMethod yX3_removeGuest ∈ lw_tbl := List.mem_of_getElem? (i := 785) (by decide +kernel)
set_option maxRecDepth 100000 in
theorem tw_786 : Cond.selects RX3 yX3_removeGuest yX3_removeGuest ∈ lw_tbl := List.mem_of_getElem? (i := 786) (by decide +kernel)
set_option maxRecDepth 100000 in
theorem tw_787 : Cond.code yX3_removeGuest cX3_removeGuest 4 none ∈ lw_tbl := List.mem_of_getElem? (i := 787) (by decide +kernel)
set_option maxRecDepth 100000 in
theorem tw_788 : Cond.constantLong RX3 122 (-1) ∈ lw_tbl := List.mem_of_getElem? (i := 788) (by decide +kernel)
set_option maxRecDepth 100000 in
theorem tw_789 : Cond.methodLink RX1 56 yX1_tryOrders ∈ lw_tbl := List.mem_of_getElem? (i := 789) (by decide +kernel)
set_option maxRecDepth 100000 in
theorem tw_790 : Cond.static yX1_tryOrders ∈ lw_tbl := List.mem_of_getElem? (i := 790) (by decide +kernel)
set_option maxRecDepth 100000 in
theorem tw_791 : Cond.code yX1_tryOrders cX1_tryOrders 6 none ∈ lw_tbl := List.mem_of_getElem? (i := 791) (by decide +kernel)
set_option maxRecDepth 100000 in
theorem tw_792 : Cond.methodLink RX1 89 yX1_isHopeless ∈ lw_tbl := List.mem_of_getElem? (i := 792) (by decide +kernel)
set_option maxRecDepth 100000 in
theorem tw_794 : Cond.instanceMethod yX1_isHopeless ∈ lw_tbl := List.mem_of_getElem? (i := 794) (by decide +kernel)
set_option maxRecDepth 100000 in
theorem tw_795 : Cond.code yX1_isHopeless cX1_isHopeless 1 (some .boolean) ∈ lw_tbl := List.mem_of_getElem? (i := 795) (by decide +kernel)
set_option maxRecDepth 100000 in
theorem tw_796 : Cond.methodLink RX1 93 yX1_keepOrder ∈ lw_tbl := List.mem_of_getElem? (i := 796) (by decide +kernel)
set_option maxRecDepth 100000 in
theorem tw_798 : Cond.instanceMethod yX1_keepOrder ∈ lw_tbl := List.mem_of_getElem? (i := 798) (by decide +kernel)
set_option maxRecDepth 100000 in
theorem tw_799 : Cond.code yX1_keepOrder cX1_keepOrder 1 none ∈ lw_tbl := List.mem_of_getElem? (i := 799) (by decide +kernel)
set_option maxRecDepth 100000 in
theorem tw_800 : Cond.methodLink RX1 104 arraycopyName ∈ lw_tbl := List.mem_of_getElem? (i := 800) (by decide +kernel)
set_option maxRecDepth 100000 in
theorem tw_801 : Cond.static arraycopyName ∈ lw_tbl := List.mem_of_getElem? (i := 801) (by decide +kernel)
set_option maxRecDepth 100000 in
theorem tw_802 : Cond.native arraycopyName ∈ lw_tbl := List.mem_of_getElem? (i := 802) (by decide +kernel)
set_option maxRecDepth 100000 in
theorem tw_803 : Cond.methodLink RX1 96 yX1_place ∈ lw_tbl := List.mem_of_getElem? (i := 803) (by decide +kernel)
set_option maxRecDepth 100000 in
theorem tw_805 : Cond.instanceMethod yX1_place ∈ lw_tbl := List.mem_of_getElem? (i := 805) (by decide +kernel)
set_option maxRecDepth 100000 in
theorem tw_806 : Cond.code yX1_place cX1_place 5 none ∈ lw_tbl := List.mem_of_getElem? (i := 806) (by decide +kernel)
set_option maxRecDepth 100000 in
theorem tw_807 : Cond.methodLink RX1 100 yX1_unplace ∈ lw_tbl := List.mem_of_getElem? (i := 807) (by decide +kernel)
set_option maxRecDepth 100000 in
theorem tw_809 : Cond.instanceMethod yX1_unplace ∈ lw_tbl := List.mem_of_getElem? (i := 809) (by decide +kernel)
set_option maxRecDepth 100000 in
theorem tw_810 : Cond.code yX1_unplace cX1_unplace 4 none ∈ lw_tbl := List.mem_of_getElem? (i := 810) (by decide +kernel)
set_option maxRecDepth 100000 in
theorem tw_811 : Cond.methodLink RX10 166 yX1_tell ∈ lw_tbl := List.mem_of_getElem? (i := 811) (by decide +kernel)
set_option maxRecDepth 100000 in
theorem tw_812 : Cond.instanceMethod yX1_tell ∈ lw_tbl := List.mem_of_getElem? (i := 812) (by decide +kernel)
set_option maxRecDepth 100000 in
theorem tw_813 : Cond.selects RX1 yX1_tell yX1_tell ∈ lw_tbl := List.mem_of_getElem? (i := 813) (by decide +kernel)
set_option maxRecDepth 100000 in
theorem tw_814 : Cond.code yX1_tell cX1_tell 2 (some .int) ∈ lw_tbl := List.mem_of_getElem? (i := 814) (by decide +kernel)
set_option maxRecDepth 100000 in
theorem tw_815 : Cond.methodLink RL 74 yX10_keep ∈ lw_tbl := List.mem_of_getElem? (i := 815) (by decide +kernel)
set_option maxRecDepth 100000 in
theorem tw_816 : Cond.instanceMethod yX10_keep ∈ lw_tbl := List.mem_of_getElem? (i := 816) (by decide +kernel)
set_option maxRecDepth 100000 in
theorem tw_817 : Cond.selects RX10 yX10_keep yX10_keep ∈ lw_tbl := List.mem_of_getElem? (i := 817) (by decide +kernel)
set_option maxRecDepth 100000 in
theorem tw_818 : Cond.code yX10_keep cX10_keep 2 (some .boolean) ∈ lw_tbl := List.mem_of_getElem? (i := 818) (by decide +kernel)
set_option maxRecDepth 100000 in
theorem tw_819 : Cond.methodLink RL 79 yX10_next ∈ lw_tbl := List.mem_of_getElem? (i := 819) (by decide +kernel)
set_option maxRecDepth 100000 in
theorem tw_820 : Cond.instanceMethod yX10_next ∈ lw_tbl := List.mem_of_getElem? (i := 820) (by decide +kernel)
set_option maxRecDepth 100000 in
theorem tw_821 : Cond.selects RX10 yX10_next yX10_next ∈ lw_tbl := List.mem_of_getElem? (i := 821) (by decide +kernel)
set_option maxRecDepth 100000 in
theorem tw_822 : Cond.code yX10_next cX10_next 1 (some .int) ∈ lw_tbl := List.mem_of_getElem? (i := 822) (by decide +kernel)
set_option maxRecDepth 100000 in
theorem tw_823 : Cond.methodLink RX10 167 yX1_layOutBest ∈ lw_tbl := List.mem_of_getElem? (i := 823) (by decide +kernel)
set_option maxRecDepth 100000 in
theorem tw_824 : Cond.instanceMethod yX1_layOutBest ∈ lw_tbl := List.mem_of_getElem? (i := 824) (by decide +kernel)
set_option maxRecDepth 100000 in
theorem tw_825 : Cond.selects RX1 yX1_layOutBest yX1_layOutBest ∈ lw_tbl := List.mem_of_getElem? (i := 825) (by decide +kernel)
set_option maxRecDepth 100000 in
theorem tw_826 : Cond.code yX1_layOutBest cX1_layOutBest 5 none ∈ lw_tbl := List.mem_of_getElem? (i := 826) (by decide +kernel)
set_option maxRecDepth 100000 in
theorem tw_827 : Cond.methodLink RX10 170 yX10_countGuests ∈ lw_tbl := List.mem_of_getElem? (i := 827) (by decide +kernel)
set_option maxRecDepth 100000 in
theorem tw_829 : Cond.instanceMethod yX10_countGuests ∈ lw_tbl := List.mem_of_getElem? (i := 829) (by decide +kernel)
set_option maxRecDepth 100000 in
theorem tw_830 : Cond.code yX10_countGuests cX10_countGuests 3 none ∈ lw_tbl := List.mem_of_getElem? (i := 830) (by decide +kernel)
