/-! THE LAW: words. -/
theorem lq_60 : gw (.initialized RX9) := ⟨List.mem_of_getElem? (i := 60) (by decide +kernel), rfl⟩
theorem lq_71 : gw (.initialized RX10) := ⟨List.mem_of_getElem? (i := 71) (by decide +kernel), rfl⟩
theorem lq_383 : gw (.methodLink RL 13 yX9_cast) := ⟨List.mem_of_getElem? (i := 383) (by decide +kernel), rfl⟩
theorem lq_384 : gw (.instanceMethod yX9_cast) := ⟨List.mem_of_getElem? (i := 384) (by decide +kernel), rfl⟩
theorem lq_385 : gw (.selects RX9 yX9_cast yX9_cast) := ⟨List.mem_of_getElem? (i := 385) (by decide +kernel), rfl⟩
theorem lq_386 : gw (.code yX9_cast cX9_cast 5 (some .int)) := ⟨List.mem_of_getElem? (i := 386) (by decide +kernel), rfl⟩
theorem lq_417 : gw (.methodLink RL 18 yX9_letterIs) := ⟨List.mem_of_getElem? (i := 417) (by decide +kernel), rfl⟩
theorem lq_418 : gw (.instanceMethod yX9_letterIs) := ⟨List.mem_of_getElem? (i := 418) (by decide +kernel), rfl⟩
theorem lq_419 : gw (.selects RX9 yX9_letterIs yX9_letterIs) := ⟨List.mem_of_getElem? (i := 419) (by decide +kernel), rfl⟩
theorem lq_420 : gw (.code yX9_letterIs cX9_letterIs 4 (some .int)) := ⟨List.mem_of_getElem? (i := 420) (by decide +kernel), rfl⟩
theorem lq_466 : gw (.methodLink RL 23 yX9_as) := ⟨List.mem_of_getElem? (i := 466) (by decide +kernel), rfl⟩
theorem lq_467 : gw (.instanceMethod yX9_as) := ⟨List.mem_of_getElem? (i := 467) (by decide +kernel), rfl⟩
theorem lq_468 : gw (.selects RX9 yX9_as yX9_as) := ⟨List.mem_of_getElem? (i := 468) (by decide +kernel), rfl⟩
theorem lq_469 : gw (.code yX9_as cX9_as 4 (some .int)) := ⟨List.mem_of_getElem? (i := 469) (by decide +kernel), rfl⟩
theorem lq_478 : gw (.methodLink RL 27 yX9_set) := ⟨List.mem_of_getElem? (i := 478) (by decide +kernel), rfl⟩
theorem lq_479 : gw (.instanceMethod yX9_set) := ⟨List.mem_of_getElem? (i := 479) (by decide +kernel), rfl⟩
theorem lq_480 : gw (.selects RX9 yX9_set yX9_set) := ⟨List.mem_of_getElem? (i := 480) (by decide +kernel), rfl⟩
theorem lq_481 : gw (.code yX9_set cX9_set 4 (some .int)) := ⟨List.mem_of_getElem? (i := 481) (by decide +kernel), rfl⟩
theorem lq_489 : gw (.methodLink RL 31 yX9_melt) := ⟨List.mem_of_getElem? (i := 489) (by decide +kernel), rfl⟩
theorem lq_490 : gw (.instanceMethod yX9_melt) := ⟨List.mem_of_getElem? (i := 490) (by decide +kernel), rfl⟩
theorem lq_491 : gw (.selects RX9 yX9_melt yX9_melt) := ⟨List.mem_of_getElem? (i := 491) (by decide +kernel), rfl⟩
theorem lq_492 : gw (.code yX9_melt cX9_melt 4 (some .int)) := ⟨List.mem_of_getElem? (i := 492) (by decide +kernel), rfl⟩
theorem lq_503 : gw (.methodLink RL 36 yX9_drink) := ⟨List.mem_of_getElem? (i := 503) (by decide +kernel), rfl⟩
theorem lq_504 : gw (.instanceMethod yX9_drink) := ⟨List.mem_of_getElem? (i := 504) (by decide +kernel), rfl⟩
theorem lq_505 : gw (.selects RX9 yX9_drink yX9_drink) := ⟨List.mem_of_getElem? (i := 505) (by decide +kernel), rfl⟩
theorem lq_506 : gw (.code yX9_drink cX9_drink 4 (some .int)) := ⟨List.mem_of_getElem? (i := 506) (by decide +kernel), rfl⟩
theorem lq_507 : gw (.methodLink RL 40 yX9_have) := ⟨List.mem_of_getElem? (i := 507) (by decide +kernel), rfl⟩
theorem lq_508 : gw (.instanceMethod yX9_have) := ⟨List.mem_of_getElem? (i := 508) (by decide +kernel), rfl⟩
theorem lq_509 : gw (.selects RX9 yX9_have yX9_have) := ⟨List.mem_of_getElem? (i := 509) (by decide +kernel), rfl⟩
theorem lq_510 : gw (.code yX9_have cX9_have 4 (some .int)) := ⟨List.mem_of_getElem? (i := 510) (by decide +kernel), rfl⟩
theorem lq_512 : gw (.methodLink RL 46 yX9_feed) := ⟨List.mem_of_getElem? (i := 512) (by decide +kernel), rfl⟩
theorem lq_513 : gw (.instanceMethod yX9_feed) := ⟨List.mem_of_getElem? (i := 513) (by decide +kernel), rfl⟩
theorem lq_514 : gw (.selects RX9 yX9_feed yX9_feed) := ⟨List.mem_of_getElem? (i := 514) (by decide +kernel), rfl⟩
theorem lq_515 : gw (.code yX9_feed cX9_feed 5 (some .int)) := ⟨List.mem_of_getElem? (i := 515) (by decide +kernel), rfl⟩
theorem lq_521 : gw (.methodLink RL 51 yX9_text) := ⟨List.mem_of_getElem? (i := 521) (by decide +kernel), rfl⟩
theorem lq_522 : gw (.instanceMethod yX9_text) := ⟨List.mem_of_getElem? (i := 522) (by decide +kernel), rfl⟩
theorem lq_523 : gw (.selects RX9 yX9_text yX9_text) := ⟨List.mem_of_getElem? (i := 523) (by decide +kernel), rfl⟩
theorem lq_524 : gw (.code yX9_text cX9_text 3 (some .int)) := ⟨List.mem_of_getElem? (i := 524) (by decide +kernel), rfl⟩
theorem lq_661 : gw (.methodLink RL 55 yX9_untell) := ⟨List.mem_of_getElem? (i := 661) (by decide +kernel), rfl⟩
theorem lq_662 : gw (.instanceMethod yX9_untell) := ⟨List.mem_of_getElem? (i := 662) (by decide +kernel), rfl⟩
theorem lq_663 : gw (.selects RX9 yX9_untell yX9_untell) := ⟨List.mem_of_getElem? (i := 663) (by decide +kernel), rfl⟩
theorem lq_664 : gw (.code yX9_untell cX9_untell 4 (some .int)) := ⟨List.mem_of_getElem? (i := 664) (by decide +kernel), rfl⟩
theorem lq_666 : gw (.methodLink RL 59 yX9_word) := ⟨List.mem_of_getElem? (i := 666) (by decide +kernel), rfl⟩
theorem lq_667 : gw (.instanceMethod yX9_word) := ⟨List.mem_of_getElem? (i := 667) (by decide +kernel), rfl⟩
theorem lq_668 : gw (.selects RX9 yX9_word yX9_word) := ⟨List.mem_of_getElem? (i := 668) (by decide +kernel), rfl⟩
theorem lq_669 : gw (.code yX9_word cX9_word 3 (some .int)) := ⟨List.mem_of_getElem? (i := 669) (by decide +kernel), rfl⟩
theorem lq_678 : gw (.methodLink RL 64 yX9_decree) := ⟨List.mem_of_getElem? (i := 678) (by decide +kernel), rfl⟩
theorem lq_679 : gw (.instanceMethod yX9_decree) := ⟨List.mem_of_getElem? (i := 679) (by decide +kernel), rfl⟩
theorem lq_680 : gw (.selects RX9 yX9_decree yX9_decree) := ⟨List.mem_of_getElem? (i := 680) (by decide +kernel), rfl⟩
theorem lq_681 : gw (.code yX9_decree cX9_decree 2 (some .int)) := ⟨List.mem_of_getElem? (i := 681) (by decide +kernel), rfl⟩
theorem lq_697 : gw (.methodLink RL 68 yX9_lay) := ⟨List.mem_of_getElem? (i := 697) (by decide +kernel), rfl⟩
theorem lq_698 : gw (.instanceMethod yX9_lay) := ⟨List.mem_of_getElem? (i := 698) (by decide +kernel), rfl⟩
theorem lq_699 : gw (.selects RX9 yX9_lay yX9_lay) := ⟨List.mem_of_getElem? (i := 699) (by decide +kernel), rfl⟩
theorem lq_700 : gw (.code yX9_lay cX9_lay 4 (some .int)) := ⟨List.mem_of_getElem? (i := 700) (by decide +kernel), rfl⟩
theorem lq_702 : gw (.methodLink RL 72 yX9_sort) := ⟨List.mem_of_getElem? (i := 702) (by decide +kernel), rfl⟩
theorem lq_703 : gw (.instanceMethod yX9_sort) := ⟨List.mem_of_getElem? (i := 703) (by decide +kernel), rfl⟩
theorem lq_704 : gw (.selects RX9 yX9_sort yX9_sort) := ⟨List.mem_of_getElem? (i := 704) (by decide +kernel), rfl⟩
theorem lq_705 : gw (.code yX9_sort cX9_sort 2 (some .int)) := ⟨List.mem_of_getElem? (i := 705) (by decide +kernel), rfl⟩
theorem lq_715 : gw (.methodLink RL 76 yX9_pageIs) := ⟨List.mem_of_getElem? (i := 715) (by decide +kernel), rfl⟩
theorem lq_716 : gw (.instanceMethod yX9_pageIs) := ⟨List.mem_of_getElem? (i := 716) (by decide +kernel), rfl⟩
theorem lq_717 : gw (.selects RX9 yX9_pageIs yX9_pageIs) := ⟨List.mem_of_getElem? (i := 717) (by decide +kernel), rfl⟩
theorem lq_718 : gw (.code yX9_pageIs cX9_pageIs 4 (some .int)) := ⟨List.mem_of_getElem? (i := 718) (by decide +kernel), rfl⟩
theorem lq_724 : gw (.methodLink RL 80 yX9_press) := ⟨List.mem_of_getElem? (i := 724) (by decide +kernel), rfl⟩
theorem lq_725 : gw (.instanceMethod yX9_press) := ⟨List.mem_of_getElem? (i := 725) (by decide +kernel), rfl⟩
theorem lq_726 : gw (.selects RX9 yX9_press yX9_press) := ⟨List.mem_of_getElem? (i := 726) (by decide +kernel), rfl⟩
theorem lq_727 : gw (.code yX9_press cX9_press 5 (some .int)) := ⟨List.mem_of_getElem? (i := 727) (by decide +kernel), rfl⟩
theorem lq_740 : gw (.methodLink RL 84 yX9_run) := ⟨List.mem_of_getElem? (i := 740) (by decide +kernel), rfl⟩
theorem lq_741 : gw (.instanceMethod yX9_run) := ⟨List.mem_of_getElem? (i := 741) (by decide +kernel), rfl⟩
theorem lq_742 : gw (.selects RX9 yX9_run yX9_run) := ⟨List.mem_of_getElem? (i := 742) (by decide +kernel), rfl⟩
theorem lq_743 : gw (.code yX9_run cX9_run 3 (some .int)) := ⟨List.mem_of_getElem? (i := 743) (by decide +kernel), rfl⟩
theorem lq_770 : gw (.methodLink RL 88 yX9_lost) := ⟨List.mem_of_getElem? (i := 770) (by decide +kernel), rfl⟩
theorem lq_771 : gw (.instanceMethod yX9_lost) := ⟨List.mem_of_getElem? (i := 771) (by decide +kernel), rfl⟩
theorem lq_772 : gw (.selects RX9 yX9_lost yX9_lost) := ⟨List.mem_of_getElem? (i := 772) (by decide +kernel), rfl⟩
theorem lq_773 : gw (.code yX9_lost cX9_lost 4 (some .int)) := ⟨List.mem_of_getElem? (i := 773) (by decide +kernel), rfl⟩
theorem lq_780 : gw (.methodLink RL 92 yX9_then) := ⟨List.mem_of_getElem? (i := 780) (by decide +kernel), rfl⟩
theorem lq_781 : gw (.instanceMethod yX9_then) := ⟨List.mem_of_getElem? (i := 781) (by decide +kernel), rfl⟩
theorem lq_782 : gw (.selects RX9 yX9_then yX9_then) := ⟨List.mem_of_getElem? (i := 782) (by decide +kernel), rfl⟩
theorem lq_783 : gw (.code yX9_then cX9_then 6 (some .int)) := ⟨List.mem_of_getElem? (i := 783) (by decide +kernel), rfl⟩
theorem lq_785 : gw (.methodLink RL 96 yX9_order) := ⟨List.mem_of_getElem? (i := 785) (by decide +kernel), rfl⟩
theorem lq_786 : gw (.instanceMethod yX9_order) := ⟨List.mem_of_getElem? (i := 786) (by decide +kernel), rfl⟩
theorem lq_787 : gw (.selects RX9 yX9_order yX9_order) := ⟨List.mem_of_getElem? (i := 787) (by decide +kernel), rfl⟩
theorem lq_788 : gw (.code yX9_order cX9_order 3 (some .int)) := ⟨List.mem_of_getElem? (i := 788) (by decide +kernel), rfl⟩
theorem lq_818 : gw (.methodLink RL 100 yX9_room) := ⟨List.mem_of_getElem? (i := 818) (by decide +kernel), rfl⟩
theorem lq_819 : gw (.instanceMethod yX9_room) := ⟨List.mem_of_getElem? (i := 819) (by decide +kernel), rfl⟩
theorem lq_820 : gw (.selects RX9 yX9_room yX9_room) := ⟨List.mem_of_getElem? (i := 820) (by decide +kernel), rfl⟩
theorem lq_821 : gw (.code yX9_room cX9_room 7 (some .int)) := ⟨List.mem_of_getElem? (i := 821) (by decide +kernel), rfl⟩
theorem lq_826 : gw (.methodLink RL 104 yX9_needs) := ⟨List.mem_of_getElem? (i := 826) (by decide +kernel), rfl⟩
theorem lq_827 : gw (.instanceMethod yX9_needs) := ⟨List.mem_of_getElem? (i := 827) (by decide +kernel), rfl⟩
theorem lq_828 : gw (.selects RX9 yX9_needs yX9_needs) := ⟨List.mem_of_getElem? (i := 828) (by decide +kernel), rfl⟩
theorem lq_829 : gw (.code yX9_needs cX9_needs 5 (some .int)) := ⟨List.mem_of_getElem? (i := 829) (by decide +kernel), rfl⟩
theorem lq_830 : gw (.methodLink RL 108 yX9_said) := ⟨List.mem_of_getElem? (i := 830) (by decide +kernel), rfl⟩
theorem lq_831 : gw (.instanceMethod yX9_said) := ⟨List.mem_of_getElem? (i := 831) (by decide +kernel), rfl⟩
theorem lq_832 : gw (.selects RX9 yX9_said yX9_said) := ⟨List.mem_of_getElem? (i := 832) (by decide +kernel), rfl⟩
theorem lq_833 : gw (.code yX9_said cX9_said 4 (some .int)) := ⟨List.mem_of_getElem? (i := 833) (by decide +kernel), rfl⟩
theorem lq_838 : gw (.methodLink RL 112 yX9_inCase) := ⟨List.mem_of_getElem? (i := 838) (by decide +kernel), rfl⟩
theorem lq_839 : gw (.instanceMethod yX9_inCase) := ⟨List.mem_of_getElem? (i := 839) (by decide +kernel), rfl⟩
theorem lq_840 : gw (.selects RX9 yX9_inCase yX9_inCase) := ⟨List.mem_of_getElem? (i := 840) (by decide +kernel), rfl⟩
theorem lq_841 : gw (.code yX9_inCase cX9_inCase 2 (some .int)) := ⟨List.mem_of_getElem? (i := 841) (by decide +kernel), rfl⟩
theorem lq_843 : gw (.methodLink RL 116 yX9_days) := ⟨List.mem_of_getElem? (i := 843) (by decide +kernel), rfl⟩
theorem lq_844 : gw (.instanceMethod yX9_days) := ⟨List.mem_of_getElem? (i := 844) (by decide +kernel), rfl⟩
theorem lq_845 : gw (.selects RX9 yX9_days yX9_days) := ⟨List.mem_of_getElem? (i := 845) (by decide +kernel), rfl⟩
theorem lq_846 : gw (.code yX9_days cX9_days 4 (some .int)) := ⟨List.mem_of_getElem? (i := 846) (by decide +kernel), rfl⟩
theorem lq_852 : gw (.methodLink RL 120 yX9_seed) := ⟨List.mem_of_getElem? (i := 852) (by decide +kernel), rfl⟩
theorem lq_853 : gw (.instanceMethod yX9_seed) := ⟨List.mem_of_getElem? (i := 853) (by decide +kernel), rfl⟩
theorem lq_854 : gw (.selects RX9 yX9_seed yX9_seed) := ⟨List.mem_of_getElem? (i := 854) (by decide +kernel), rfl⟩
theorem lq_855 : gw (.code yX9_seed cX9_seed 3 (some .int)) := ⟨List.mem_of_getElem? (i := 855) (by decide +kernel), rfl⟩
theorem lq_856 : gw (.methodLink RL 124 yX9_voice) := ⟨List.mem_of_getElem? (i := 856) (by decide +kernel), rfl⟩
theorem lq_857 : gw (.instanceMethod yX9_voice) := ⟨List.mem_of_getElem? (i := 857) (by decide +kernel), rfl⟩
theorem lq_858 : gw (.selects RX9 yX9_voice yX9_voice) := ⟨List.mem_of_getElem? (i := 858) (by decide +kernel), rfl⟩
theorem lq_859 : gw (.code yX9_voice cX9_voice 5 (some .int)) := ⟨List.mem_of_getElem? (i := 859) (by decide +kernel), rfl⟩
theorem lq_888 : gw (.methodLink RL 128 yX9_body) := ⟨List.mem_of_getElem? (i := 888) (by decide +kernel), rfl⟩
theorem lq_889 : gw (.instanceMethod yX9_body) := ⟨List.mem_of_getElem? (i := 889) (by decide +kernel), rfl⟩
theorem lq_890 : gw (.selects RX9 yX9_body yX9_body) := ⟨List.mem_of_getElem? (i := 890) (by decide +kernel), rfl⟩
theorem lq_891 : gw (.code yX9_body cX9_body 2 (some .int)) := ⟨List.mem_of_getElem? (i := 891) (by decide +kernel), rfl⟩
theorem lq_892 : gw (.methodLink RL 132 yX9_sheet) := ⟨List.mem_of_getElem? (i := 892) (by decide +kernel), rfl⟩
theorem lq_893 : gw (.instanceMethod yX9_sheet) := ⟨List.mem_of_getElem? (i := 893) (by decide +kernel), rfl⟩
theorem lq_894 : gw (.selects RX9 yX9_sheet yX9_sheet) := ⟨List.mem_of_getElem? (i := 894) (by decide +kernel), rfl⟩
theorem lq_895 : gw (.code yX9_sheet cX9_sheet 4 (some .int)) := ⟨List.mem_of_getElem? (i := 895) (by decide +kernel), rfl⟩
theorem lq_904 : gw (.methodLink RL 136 yX9_put) := ⟨List.mem_of_getElem? (i := 904) (by decide +kernel), rfl⟩
theorem lq_905 : gw (.instanceMethod yX9_put) := ⟨List.mem_of_getElem? (i := 905) (by decide +kernel), rfl⟩
theorem lq_906 : gw (.selects RX9 yX9_put yX9_put) := ⟨List.mem_of_getElem? (i := 906) (by decide +kernel), rfl⟩
theorem lq_907 : gw (.code yX9_put cX9_put 5 (some .int)) := ⟨List.mem_of_getElem? (i := 907) (by decide +kernel), rfl⟩
theorem lq_920 : gw (.methodLink RL 140 yX9_move) := ⟨List.mem_of_getElem? (i := 920) (by decide +kernel), rfl⟩
theorem lq_921 : gw (.instanceMethod yX9_move) := ⟨List.mem_of_getElem? (i := 921) (by decide +kernel), rfl⟩
theorem lq_922 : gw (.selects RX9 yX9_move yX9_move) := ⟨List.mem_of_getElem? (i := 922) (by decide +kernel), rfl⟩
theorem lq_923 : gw (.code yX9_move cX9_move 8 (some .int)) := ⟨List.mem_of_getElem? (i := 923) (by decide +kernel), rfl⟩
theorem lq_932 : gw (.methodLink RL 145 yX9_casts) := ⟨List.mem_of_getElem? (i := 932) (by decide +kernel), rfl⟩
theorem lq_933 : gw (.instanceMethod yX9_casts) := ⟨List.mem_of_getElem? (i := 933) (by decide +kernel), rfl⟩
theorem lq_934 : gw (.selects RX9 yX9_casts yX9_casts) := ⟨List.mem_of_getElem? (i := 934) (by decide +kernel), rfl⟩
theorem lq_935 : gw (.code yX9_casts cX9_casts 5 (some .int)) := ⟨List.mem_of_getElem? (i := 935) (by decide +kernel), rfl⟩
theorem lq_936 : gw (.methodLink RL 149 yX9_judge) := ⟨List.mem_of_getElem? (i := 936) (by decide +kernel), rfl⟩
theorem lq_937 : gw (.instanceMethod yX9_judge) := ⟨List.mem_of_getElem? (i := 937) (by decide +kernel), rfl⟩
theorem lq_938 : gw (.selects RX9 yX9_judge yX9_judge) := ⟨List.mem_of_getElem? (i := 938) (by decide +kernel), rfl⟩
theorem lq_939 : gw (.code yX9_judge cX9_judge 5 (some .int)) := ⟨List.mem_of_getElem? (i := 939) (by decide +kernel), rfl⟩
theorem lq_941 : gw (.methodLink RL 153 yX9_image) := ⟨List.mem_of_getElem? (i := 941) (by decide +kernel), rfl⟩
theorem lq_942 : gw (.instanceMethod yX9_image) := ⟨List.mem_of_getElem? (i := 942) (by decide +kernel), rfl⟩
theorem lq_943 : gw (.selects RX9 yX9_image yX9_image) := ⟨List.mem_of_getElem? (i := 943) (by decide +kernel), rfl⟩
theorem lq_944 : gw (.code yX9_image cX9_image 1 (some .int)) := ⟨List.mem_of_getElem? (i := 944) (by decide +kernel), rfl⟩
theorem lq_952 : gw (.methodLink RL 157 yX9_restore) := ⟨List.mem_of_getElem? (i := 952) (by decide +kernel), rfl⟩
theorem lq_953 : gw (.instanceMethod yX9_restore) := ⟨List.mem_of_getElem? (i := 953) (by decide +kernel), rfl⟩
theorem lq_954 : gw (.selects RX9 yX9_restore yX9_restore) := ⟨List.mem_of_getElem? (i := 954) (by decide +kernel), rfl⟩
theorem lq_955 : gw (.code yX9_restore cX9_restore 1 (some .int)) := ⟨List.mem_of_getElem? (i := 955) (by decide +kernel), rfl⟩
theorem lq_956 : gw (.methodLink RL 161 yX9_tell) := ⟨List.mem_of_getElem? (i := 956) (by decide +kernel), rfl⟩
theorem lq_957 : gw (.instanceMethod yX9_tell) := ⟨List.mem_of_getElem? (i := 957) (by decide +kernel), rfl⟩
theorem lq_958 : gw (.selects RX9 yX9_tell yX9_tell) := ⟨List.mem_of_getElem? (i := 958) (by decide +kernel), rfl⟩
theorem lq_959 : gw (.code yX9_tell cX9_tell 2 (some .int)) := ⟨List.mem_of_getElem? (i := 959) (by decide +kernel), rfl⟩
theorem lq_960 : gw (.methodLink RL 165 yX9_check) := ⟨List.mem_of_getElem? (i := 960) (by decide +kernel), rfl⟩
theorem lq_961 : gw (.instanceMethod yX9_check) := ⟨List.mem_of_getElem? (i := 961) (by decide +kernel), rfl⟩
theorem lq_962 : gw (.selects RX9 yX9_check yX9_check) := ⟨List.mem_of_getElem? (i := 962) (by decide +kernel), rfl⟩
theorem lq_963 : gw (.code yX9_check cX9_check 3 (some .int)) := ⟨List.mem_of_getElem? (i := 963) (by decide +kernel), rfl⟩
theorem lq_968 : gw (.methodLink RL 169 yX9_count) := ⟨List.mem_of_getElem? (i := 968) (by decide +kernel), rfl⟩
theorem lq_969 : gw (.instanceMethod yX9_count) := ⟨List.mem_of_getElem? (i := 969) (by decide +kernel), rfl⟩
theorem lq_970 : gw (.selects RX9 yX9_count yX9_count) := ⟨List.mem_of_getElem? (i := 970) (by decide +kernel), rfl⟩
theorem lq_971 : gw (.code yX9_count cX9_count 2 (some .int)) := ⟨List.mem_of_getElem? (i := 971) (by decide +kernel), rfl⟩
theorem lq_976 : gw (.methodLink RL 173 yX9_told) := ⟨List.mem_of_getElem? (i := 976) (by decide +kernel), rfl⟩
theorem lq_977 : gw (.instanceMethod yX9_told) := ⟨List.mem_of_getElem? (i := 977) (by decide +kernel), rfl⟩
theorem lq_978 : gw (.selects RX9 yX9_told yX9_told) := ⟨List.mem_of_getElem? (i := 978) (by decide +kernel), rfl⟩
theorem lq_979 : gw (.code yX9_told cX9_told 2 (some .int)) := ⟨List.mem_of_getElem? (i := 979) (by decide +kernel), rfl⟩
theorem lq_1065 : gw (.methodLink RL 17 yX10_cast) := ⟨List.mem_of_getElem? (i := 1065) (by decide +kernel), rfl⟩
theorem lq_1066 : gw (.instanceMethod yX10_cast) := ⟨List.mem_of_getElem? (i := 1066) (by decide +kernel), rfl⟩
theorem lq_1067 : gw (.selects RX10 yX10_cast yX10_cast) := ⟨List.mem_of_getElem? (i := 1067) (by decide +kernel), rfl⟩
theorem lq_1068 : gw (.code yX10_cast cX10_cast 5 (some .int)) := ⟨List.mem_of_getElem? (i := 1068) (by decide +kernel), rfl⟩
theorem lq_1092 : gw (.methodLink RL 50 yX10_feed) := ⟨List.mem_of_getElem? (i := 1092) (by decide +kernel), rfl⟩
theorem lq_1093 : gw (.instanceMethod yX10_feed) := ⟨List.mem_of_getElem? (i := 1093) (by decide +kernel), rfl⟩
theorem lq_1094 : gw (.selects RX10 yX10_feed yX10_feed) := ⟨List.mem_of_getElem? (i := 1094) (by decide +kernel), rfl⟩
theorem lq_1095 : gw (.code yX10_feed cX10_feed 5 (some .int)) := ⟨List.mem_of_getElem? (i := 1095) (by decide +kernel), rfl⟩
theorem lq_1097 : gw (.methodLink RL 54 yX10_text) := ⟨List.mem_of_getElem? (i := 1097) (by decide +kernel), rfl⟩
theorem lq_1098 : gw (.instanceMethod yX10_text) := ⟨List.mem_of_getElem? (i := 1098) (by decide +kernel), rfl⟩
theorem lq_1099 : gw (.selects RX10 yX10_text yX10_text) := ⟨List.mem_of_getElem? (i := 1099) (by decide +kernel), rfl⟩
theorem lq_1100 : gw (.code yX10_text cX10_text 5 (some .int)) := ⟨List.mem_of_getElem? (i := 1100) (by decide +kernel), rfl⟩
theorem lq_1141 : gw (.methodLink RL 58 yX10_untell) := ⟨List.mem_of_getElem? (i := 1141) (by decide +kernel), rfl⟩
theorem lq_1142 : gw (.instanceMethod yX10_untell) := ⟨List.mem_of_getElem? (i := 1142) (by decide +kernel), rfl⟩
theorem lq_1143 : gw (.selects RX10 yX10_untell yX10_untell) := ⟨List.mem_of_getElem? (i := 1143) (by decide +kernel), rfl⟩
theorem lq_1144 : gw (.code yX10_untell cX10_untell 3 (some .int)) := ⟨List.mem_of_getElem? (i := 1144) (by decide +kernel), rfl⟩
theorem lq_1149 : gw (.methodLink RL 22 yX10_letterIs) := ⟨List.mem_of_getElem? (i := 1149) (by decide +kernel), rfl⟩
theorem lq_1150 : gw (.instanceMethod yX10_letterIs) := ⟨List.mem_of_getElem? (i := 1150) (by decide +kernel), rfl⟩
theorem lq_1151 : gw (.selects RX10 yX10_letterIs yX10_letterIs) := ⟨List.mem_of_getElem? (i := 1151) (by decide +kernel), rfl⟩
theorem lq_1152 : gw (.code yX10_letterIs cX10_letterIs 3 (some .int)) := ⟨List.mem_of_getElem? (i := 1152) (by decide +kernel), rfl⟩
theorem lq_1196 : gw (.methodLink RL 26 yX10_as) := ⟨List.mem_of_getElem? (i := 1196) (by decide +kernel), rfl⟩
theorem lq_1197 : gw (.instanceMethod yX10_as) := ⟨List.mem_of_getElem? (i := 1197) (by decide +kernel), rfl⟩
theorem lq_1198 : gw (.selects RX10 yX10_as yX10_as) := ⟨List.mem_of_getElem? (i := 1198) (by decide +kernel), rfl⟩
theorem lq_1199 : gw (.code yX10_as cX10_as 3 (some .int)) := ⟨List.mem_of_getElem? (i := 1199) (by decide +kernel), rfl⟩
theorem lq_1203 : gw (.methodLink RL 30 yX10_set) := ⟨List.mem_of_getElem? (i := 1203) (by decide +kernel), rfl⟩
theorem lq_1204 : gw (.instanceMethod yX10_set) := ⟨List.mem_of_getElem? (i := 1204) (by decide +kernel), rfl⟩
theorem lq_1205 : gw (.selects RX10 yX10_set yX10_set) := ⟨List.mem_of_getElem? (i := 1205) (by decide +kernel), rfl⟩
theorem lq_1206 : gw (.code yX10_set cX10_set 7 (some .int)) := ⟨List.mem_of_getElem? (i := 1206) (by decide +kernel), rfl⟩
theorem lq_1207 : gw (.methodLink RL 35 yX10_melt) := ⟨List.mem_of_getElem? (i := 1207) (by decide +kernel), rfl⟩
theorem lq_1208 : gw (.instanceMethod yX10_melt) := ⟨List.mem_of_getElem? (i := 1208) (by decide +kernel), rfl⟩
theorem lq_1209 : gw (.selects RX10 yX10_melt yX10_melt) := ⟨List.mem_of_getElem? (i := 1209) (by decide +kernel), rfl⟩
theorem lq_1210 : gw (.code yX10_melt cX10_melt 3 (some .int)) := ⟨List.mem_of_getElem? (i := 1210) (by decide +kernel), rfl⟩
theorem lq_1216 : gw (.methodLink RL 39 yX10_drink) := ⟨List.mem_of_getElem? (i := 1216) (by decide +kernel), rfl⟩
theorem lq_1217 : gw (.instanceMethod yX10_drink) := ⟨List.mem_of_getElem? (i := 1217) (by decide +kernel), rfl⟩
theorem lq_1218 : gw (.selects RX10 yX10_drink yX10_drink) := ⟨List.mem_of_getElem? (i := 1218) (by decide +kernel), rfl⟩
theorem lq_1219 : gw (.code yX10_drink cX10_drink 3 (some .int)) := ⟨List.mem_of_getElem? (i := 1219) (by decide +kernel), rfl⟩
theorem lq_1220 : gw (.methodLink RL 43 yX10_have) := ⟨List.mem_of_getElem? (i := 1220) (by decide +kernel), rfl⟩
theorem lq_1221 : gw (.instanceMethod yX10_have) := ⟨List.mem_of_getElem? (i := 1221) (by decide +kernel), rfl⟩
theorem lq_1222 : gw (.selects RX10 yX10_have yX10_have) := ⟨List.mem_of_getElem? (i := 1222) (by decide +kernel), rfl⟩
theorem lq_1223 : gw (.code yX10_have cX10_have 6 (some .int)) := ⟨List.mem_of_getElem? (i := 1223) (by decide +kernel), rfl⟩
theorem lq_1224 : gw (.methodLink RL 63 yX10_word) := ⟨List.mem_of_getElem? (i := 1224) (by decide +kernel), rfl⟩
theorem lq_1225 : gw (.instanceMethod yX10_word) := ⟨List.mem_of_getElem? (i := 1225) (by decide +kernel), rfl⟩
theorem lq_1226 : gw (.selects RX10 yX10_word yX10_word) := ⟨List.mem_of_getElem? (i := 1226) (by decide +kernel), rfl⟩
theorem lq_1227 : gw (.code yX10_word cX10_word 5 (some .int)) := ⟨List.mem_of_getElem? (i := 1227) (by decide +kernel), rfl⟩
theorem lq_1231 : gw (.methodLink RL 67 yX10_decree) := ⟨List.mem_of_getElem? (i := 1231) (by decide +kernel), rfl⟩
theorem lq_1232 : gw (.instanceMethod yX10_decree) := ⟨List.mem_of_getElem? (i := 1232) (by decide +kernel), rfl⟩
theorem lq_1233 : gw (.selects RX10 yX10_decree yX10_decree) := ⟨List.mem_of_getElem? (i := 1233) (by decide +kernel), rfl⟩
theorem lq_1234 : gw (.code yX10_decree cX10_decree 5 (some .int)) := ⟨List.mem_of_getElem? (i := 1234) (by decide +kernel), rfl⟩
theorem lq_1239 : gw (.methodLink RL 71 yX10_lay) := ⟨List.mem_of_getElem? (i := 1239) (by decide +kernel), rfl⟩
theorem lq_1240 : gw (.instanceMethod yX10_lay) := ⟨List.mem_of_getElem? (i := 1240) (by decide +kernel), rfl⟩
theorem lq_1241 : gw (.selects RX10 yX10_lay yX10_lay) := ⟨List.mem_of_getElem? (i := 1241) (by decide +kernel), rfl⟩
theorem lq_1242 : gw (.code yX10_lay cX10_lay 4 (some .int)) := ⟨List.mem_of_getElem? (i := 1242) (by decide +kernel), rfl⟩
theorem lq_1246 : gw (.methodLink RL 75 yX10_sort) := ⟨List.mem_of_getElem? (i := 1246) (by decide +kernel), rfl⟩
theorem lq_1247 : gw (.instanceMethod yX10_sort) := ⟨List.mem_of_getElem? (i := 1247) (by decide +kernel), rfl⟩
theorem lq_1248 : gw (.selects RX10 yX10_sort yX10_sort) := ⟨List.mem_of_getElem? (i := 1248) (by decide +kernel), rfl⟩
theorem lq_1249 : gw (.code yX10_sort cX10_sort 4 (some .int)) := ⟨List.mem_of_getElem? (i := 1249) (by decide +kernel), rfl⟩
theorem lq_1250 : gw (.methodLink RL 79 yX10_pageIs) := ⟨List.mem_of_getElem? (i := 1250) (by decide +kernel), rfl⟩
theorem lq_1251 : gw (.instanceMethod yX10_pageIs) := ⟨List.mem_of_getElem? (i := 1251) (by decide +kernel), rfl⟩
theorem lq_1252 : gw (.selects RX10 yX10_pageIs yX10_pageIs) := ⟨List.mem_of_getElem? (i := 1252) (by decide +kernel), rfl⟩
theorem lq_1253 : gw (.code yX10_pageIs cX10_pageIs 3 (some .int)) := ⟨List.mem_of_getElem? (i := 1253) (by decide +kernel), rfl⟩
theorem lq_1258 : gw (.methodLink RL 83 yX10_press) := ⟨List.mem_of_getElem? (i := 1258) (by decide +kernel), rfl⟩
theorem lq_1259 : gw (.instanceMethod yX10_press) := ⟨List.mem_of_getElem? (i := 1259) (by decide +kernel), rfl⟩
theorem lq_1260 : gw (.selects RX10 yX10_press yX10_press) := ⟨List.mem_of_getElem? (i := 1260) (by decide +kernel), rfl⟩
theorem lq_1261 : gw (.code yX10_press cX10_press 5 (some .int)) := ⟨List.mem_of_getElem? (i := 1261) (by decide +kernel), rfl⟩
theorem lq_1270 : gw (.methodLink RL 87 yX10_run) := ⟨List.mem_of_getElem? (i := 1270) (by decide +kernel), rfl⟩
theorem lq_1271 : gw (.instanceMethod yX10_run) := ⟨List.mem_of_getElem? (i := 1271) (by decide +kernel), rfl⟩
theorem lq_1272 : gw (.selects RX10 yX10_run yX10_run) := ⟨List.mem_of_getElem? (i := 1272) (by decide +kernel), rfl⟩
theorem lq_1273 : gw (.code yX10_run cX10_run 3 (some .int)) := ⟨List.mem_of_getElem? (i := 1273) (by decide +kernel), rfl⟩
theorem lq_1284 : gw (.methodLink RL 91 yX10_lost) := ⟨List.mem_of_getElem? (i := 1284) (by decide +kernel), rfl⟩
theorem lq_1285 : gw (.instanceMethod yX10_lost) := ⟨List.mem_of_getElem? (i := 1285) (by decide +kernel), rfl⟩
theorem lq_1286 : gw (.selects RX10 yX10_lost yX10_lost) := ⟨List.mem_of_getElem? (i := 1286) (by decide +kernel), rfl⟩
theorem lq_1287 : gw (.code yX10_lost cX10_lost 5 (some .int)) := ⟨List.mem_of_getElem? (i := 1287) (by decide +kernel), rfl⟩
theorem lq_1288 : gw (.methodLink RL 95 yX10_then) := ⟨List.mem_of_getElem? (i := 1288) (by decide +kernel), rfl⟩
theorem lq_1289 : gw (.instanceMethod yX10_then) := ⟨List.mem_of_getElem? (i := 1289) (by decide +kernel), rfl⟩
theorem lq_1290 : gw (.selects RX10 yX10_then yX10_then) := ⟨List.mem_of_getElem? (i := 1290) (by decide +kernel), rfl⟩
theorem lq_1291 : gw (.code yX10_then cX10_then 6 (some .int)) := ⟨List.mem_of_getElem? (i := 1291) (by decide +kernel), rfl⟩
theorem lq_1292 : gw (.methodLink RL 99 yX10_order) := ⟨List.mem_of_getElem? (i := 1292) (by decide +kernel), rfl⟩
theorem lq_1293 : gw (.instanceMethod yX10_order) := ⟨List.mem_of_getElem? (i := 1293) (by decide +kernel), rfl⟩
theorem lq_1294 : gw (.selects RX10 yX10_order yX10_order) := ⟨List.mem_of_getElem? (i := 1294) (by decide +kernel), rfl⟩
theorem lq_1295 : gw (.code yX10_order cX10_order 4 (some .int)) := ⟨List.mem_of_getElem? (i := 1295) (by decide +kernel), rfl⟩
theorem lq_1304 : gw (.methodLink RL 103 yX10_room) := ⟨List.mem_of_getElem? (i := 1304) (by decide +kernel), rfl⟩
theorem lq_1305 : gw (.instanceMethod yX10_room) := ⟨List.mem_of_getElem? (i := 1305) (by decide +kernel), rfl⟩
theorem lq_1306 : gw (.selects RX10 yX10_room yX10_room) := ⟨List.mem_of_getElem? (i := 1306) (by decide +kernel), rfl⟩
theorem lq_1307 : gw (.code yX10_room cX10_room 5 (some .int)) := ⟨List.mem_of_getElem? (i := 1307) (by decide +kernel), rfl⟩
theorem lq_1312 : gw (.methodLink RL 107 yX10_needs) := ⟨List.mem_of_getElem? (i := 1312) (by decide +kernel), rfl⟩
theorem lq_1313 : gw (.instanceMethod yX10_needs) := ⟨List.mem_of_getElem? (i := 1313) (by decide +kernel), rfl⟩
theorem lq_1314 : gw (.selects RX10 yX10_needs yX10_needs) := ⟨List.mem_of_getElem? (i := 1314) (by decide +kernel), rfl⟩
theorem lq_1315 : gw (.code yX10_needs cX10_needs 4 (some .int)) := ⟨List.mem_of_getElem? (i := 1315) (by decide +kernel), rfl⟩
theorem lq_1320 : gw (.methodLink RL 111 yX10_said) := ⟨List.mem_of_getElem? (i := 1320) (by decide +kernel), rfl⟩
theorem lq_1321 : gw (.instanceMethod yX10_said) := ⟨List.mem_of_getElem? (i := 1321) (by decide +kernel), rfl⟩
theorem lq_1322 : gw (.selects RX10 yX10_said yX10_said) := ⟨List.mem_of_getElem? (i := 1322) (by decide +kernel), rfl⟩
theorem lq_1323 : gw (.code yX10_said cX10_said 4 (some .int)) := ⟨List.mem_of_getElem? (i := 1323) (by decide +kernel), rfl⟩
theorem lq_1328 : gw (.methodLink RL 115 yX10_inCase) := ⟨List.mem_of_getElem? (i := 1328) (by decide +kernel), rfl⟩
theorem lq_1329 : gw (.instanceMethod yX10_inCase) := ⟨List.mem_of_getElem? (i := 1329) (by decide +kernel), rfl⟩
theorem lq_1330 : gw (.selects RX10 yX10_inCase yX10_inCase) := ⟨List.mem_of_getElem? (i := 1330) (by decide +kernel), rfl⟩
theorem lq_1331 : gw (.code yX10_inCase cX10_inCase 2 (some .int)) := ⟨List.mem_of_getElem? (i := 1331) (by decide +kernel), rfl⟩
theorem lq_1332 : gw (.methodLink RL 119 yX10_days) := ⟨List.mem_of_getElem? (i := 1332) (by decide +kernel), rfl⟩
theorem lq_1333 : gw (.instanceMethod yX10_days) := ⟨List.mem_of_getElem? (i := 1333) (by decide +kernel), rfl⟩
theorem lq_1334 : gw (.selects RX10 yX10_days yX10_days) := ⟨List.mem_of_getElem? (i := 1334) (by decide +kernel), rfl⟩
theorem lq_1335 : gw (.code yX10_days cX10_days 4 (some .int)) := ⟨List.mem_of_getElem? (i := 1335) (by decide +kernel), rfl⟩
theorem lq_1345 : gw (.methodLink RL 123 yX10_seed) := ⟨List.mem_of_getElem? (i := 1345) (by decide +kernel), rfl⟩
theorem lq_1346 : gw (.instanceMethod yX10_seed) := ⟨List.mem_of_getElem? (i := 1346) (by decide +kernel), rfl⟩
theorem lq_1347 : gw (.selects RX10 yX10_seed yX10_seed) := ⟨List.mem_of_getElem? (i := 1347) (by decide +kernel), rfl⟩
theorem lq_1348 : gw (.code yX10_seed cX10_seed 3 (some .int)) := ⟨List.mem_of_getElem? (i := 1348) (by decide +kernel), rfl⟩
theorem lq_1349 : gw (.methodLink RL 127 yX10_voice) := ⟨List.mem_of_getElem? (i := 1349) (by decide +kernel), rfl⟩
theorem lq_1350 : gw (.instanceMethod yX10_voice) := ⟨List.mem_of_getElem? (i := 1350) (by decide +kernel), rfl⟩
theorem lq_1351 : gw (.selects RX10 yX10_voice yX10_voice) := ⟨List.mem_of_getElem? (i := 1351) (by decide +kernel), rfl⟩
theorem lq_1352 : gw (.code yX10_voice cX10_voice 6 (some .int)) := ⟨List.mem_of_getElem? (i := 1352) (by decide +kernel), rfl⟩
theorem lq_1384 : gw (.methodLink RL 131 yX10_body) := ⟨List.mem_of_getElem? (i := 1384) (by decide +kernel), rfl⟩
theorem lq_1385 : gw (.instanceMethod yX10_body) := ⟨List.mem_of_getElem? (i := 1385) (by decide +kernel), rfl⟩
theorem lq_1386 : gw (.selects RX10 yX10_body yX10_body) := ⟨List.mem_of_getElem? (i := 1386) (by decide +kernel), rfl⟩
theorem lq_1387 : gw (.code yX10_body cX10_body 2 (some .int)) := ⟨List.mem_of_getElem? (i := 1387) (by decide +kernel), rfl⟩
theorem lq_1388 : gw (.methodLink RL 135 yX10_sheet) := ⟨List.mem_of_getElem? (i := 1388) (by decide +kernel), rfl⟩
theorem lq_1389 : gw (.instanceMethod yX10_sheet) := ⟨List.mem_of_getElem? (i := 1389) (by decide +kernel), rfl⟩
theorem lq_1390 : gw (.selects RX10 yX10_sheet yX10_sheet) := ⟨List.mem_of_getElem? (i := 1390) (by decide +kernel), rfl⟩
theorem lq_1391 : gw (.code yX10_sheet cX10_sheet 5 (some .int)) := ⟨List.mem_of_getElem? (i := 1391) (by decide +kernel), rfl⟩
theorem lq_1395 : gw (.methodLink RL 139 yX10_put) := ⟨List.mem_of_getElem? (i := 1395) (by decide +kernel), rfl⟩
theorem lq_1396 : gw (.instanceMethod yX10_put) := ⟨List.mem_of_getElem? (i := 1396) (by decide +kernel), rfl⟩
theorem lq_1397 : gw (.selects RX10 yX10_put yX10_put) := ⟨List.mem_of_getElem? (i := 1397) (by decide +kernel), rfl⟩
theorem lq_1398 : gw (.code yX10_put cX10_put 5 (some .int)) := ⟨List.mem_of_getElem? (i := 1398) (by decide +kernel), rfl⟩
theorem lq_1399 : gw (.methodLink RL 144 yX10_move) := ⟨List.mem_of_getElem? (i := 1399) (by decide +kernel), rfl⟩
theorem lq_1400 : gw (.instanceMethod yX10_move) := ⟨List.mem_of_getElem? (i := 1400) (by decide +kernel), rfl⟩
theorem lq_1401 : gw (.selects RX10 yX10_move yX10_move) := ⟨List.mem_of_getElem? (i := 1401) (by decide +kernel), rfl⟩
theorem lq_1402 : gw (.code yX10_move cX10_move 7 (some .int)) := ⟨List.mem_of_getElem? (i := 1402) (by decide +kernel), rfl⟩
theorem lq_1403 : gw (.methodLink RL 148 yX10_casts) := ⟨List.mem_of_getElem? (i := 1403) (by decide +kernel), rfl⟩
theorem lq_1404 : gw (.instanceMethod yX10_casts) := ⟨List.mem_of_getElem? (i := 1404) (by decide +kernel), rfl⟩
theorem lq_1405 : gw (.selects RX10 yX10_casts yX10_casts) := ⟨List.mem_of_getElem? (i := 1405) (by decide +kernel), rfl⟩
theorem lq_1406 : gw (.code yX10_casts cX10_casts 6 (some .int)) := ⟨List.mem_of_getElem? (i := 1406) (by decide +kernel), rfl⟩
theorem lq_1411 : gw (.methodLink RL 152 yX10_judge) := ⟨List.mem_of_getElem? (i := 1411) (by decide +kernel), rfl⟩
theorem lq_1412 : gw (.instanceMethod yX10_judge) := ⟨List.mem_of_getElem? (i := 1412) (by decide +kernel), rfl⟩
theorem lq_1413 : gw (.selects RX10 yX10_judge yX10_judge) := ⟨List.mem_of_getElem? (i := 1413) (by decide +kernel), rfl⟩
theorem lq_1414 : gw (.code yX10_judge cX10_judge 6 (some .int)) := ⟨List.mem_of_getElem? (i := 1414) (by decide +kernel), rfl⟩
theorem lq_1415 : gw (.methodLink RL 156 yX10_image) := ⟨List.mem_of_getElem? (i := 1415) (by decide +kernel), rfl⟩
theorem lq_1416 : gw (.instanceMethod yX10_image) := ⟨List.mem_of_getElem? (i := 1416) (by decide +kernel), rfl⟩
theorem lq_1417 : gw (.selects RX10 yX10_image yX10_image) := ⟨List.mem_of_getElem? (i := 1417) (by decide +kernel), rfl⟩
theorem lq_1418 : gw (.code yX10_image cX10_image 1 (some .int)) := ⟨List.mem_of_getElem? (i := 1418) (by decide +kernel), rfl⟩
theorem lq_1419 : gw (.methodLink RL 160 yX10_restore) := ⟨List.mem_of_getElem? (i := 1419) (by decide +kernel), rfl⟩
theorem lq_1420 : gw (.instanceMethod yX10_restore) := ⟨List.mem_of_getElem? (i := 1420) (by decide +kernel), rfl⟩
theorem lq_1421 : gw (.selects RX10 yX10_restore yX10_restore) := ⟨List.mem_of_getElem? (i := 1421) (by decide +kernel), rfl⟩
theorem lq_1422 : gw (.code yX10_restore cX10_restore 1 (some .int)) := ⟨List.mem_of_getElem? (i := 1422) (by decide +kernel), rfl⟩
theorem lq_1423 : gw (.methodLink RL 164 yX10_tell) := ⟨List.mem_of_getElem? (i := 1423) (by decide +kernel), rfl⟩
theorem lq_1424 : gw (.instanceMethod yX10_tell) := ⟨List.mem_of_getElem? (i := 1424) (by decide +kernel), rfl⟩
theorem lq_1425 : gw (.selects RX10 yX10_tell yX10_tell) := ⟨List.mem_of_getElem? (i := 1425) (by decide +kernel), rfl⟩
theorem lq_1426 : gw (.code yX10_tell cX10_tell 2 (some .int)) := ⟨List.mem_of_getElem? (i := 1426) (by decide +kernel), rfl⟩
theorem lq_1427 : gw (.methodLink RL 168 yX10_check) := ⟨List.mem_of_getElem? (i := 1427) (by decide +kernel), rfl⟩
theorem lq_1428 : gw (.instanceMethod yX10_check) := ⟨List.mem_of_getElem? (i := 1428) (by decide +kernel), rfl⟩
theorem lq_1429 : gw (.selects RX10 yX10_check yX10_check) := ⟨List.mem_of_getElem? (i := 1429) (by decide +kernel), rfl⟩
theorem lq_1430 : gw (.code yX10_check cX10_check 5 (some .int)) := ⟨List.mem_of_getElem? (i := 1430) (by decide +kernel), rfl⟩
theorem lq_1431 : gw (.methodLink RL 172 yX10_count) := ⟨List.mem_of_getElem? (i := 1431) (by decide +kernel), rfl⟩
theorem lq_1432 : gw (.instanceMethod yX10_count) := ⟨List.mem_of_getElem? (i := 1432) (by decide +kernel), rfl⟩
theorem lq_1433 : gw (.selects RX10 yX10_count yX10_count) := ⟨List.mem_of_getElem? (i := 1433) (by decide +kernel), rfl⟩
theorem lq_1434 : gw (.code yX10_count cX10_count 2 (some .int)) := ⟨List.mem_of_getElem? (i := 1434) (by decide +kernel), rfl⟩
theorem lq_1439 : gw (.methodLink RL 176 yX10_told) := ⟨List.mem_of_getElem? (i := 1439) (by decide +kernel), rfl⟩
theorem lq_1440 : gw (.instanceMethod yX10_told) := ⟨List.mem_of_getElem? (i := 1440) (by decide +kernel), rfl⟩
theorem lq_1441 : gw (.selects RX10 yX10_told yX10_told) := ⟨List.mem_of_getElem? (i := 1441) (by decide +kernel), rfl⟩
theorem lq_1442 : gw (.code yX10_told cX10_told 2 (some .int)) := ⟨List.mem_of_getElem? (i := 1442) (by decide +kernel), rfl⟩
theorem lq_1443 : gw (.constantLong RL 44 (4294967295)) := ⟨List.mem_of_getElem? (i := 1443) (by decide +kernel), rfl⟩
theorem kl_13 : lkV RL 13 yX9_cast RX9 := ⟨lq_383, lq_384, lq_385⟩
theorem okl_X9_cast : okC yX9_cast cX9_cast 5 (some .int) 3 := ⟨lq_386, lq_60, by decide +kernel, rfl⟩
theorem kl_17 : lkV RL 17 yX10_cast RX10 := ⟨lq_1065, lq_1066, lq_1067⟩
theorem okl_X10_cast : okC yX10_cast cX10_cast 5 (some .int) 3 := ⟨lq_1068, lq_71, by decide +kernel, rfl⟩
theorem kl_18 : lkV RL 18 yX9_letterIs RX9 := ⟨lq_417, lq_418, lq_419⟩
theorem okl_X9_letterIs : okC yX9_letterIs cX9_letterIs 4 (some .int) 2 := ⟨lq_420, lq_60, by decide +kernel, rfl⟩
theorem kl_22 : lkV RL 22 yX10_letterIs RX10 := ⟨lq_1149, lq_1150, lq_1151⟩
theorem okl_X10_letterIs : okC yX10_letterIs cX10_letterIs 3 (some .int) 2 := ⟨lq_1152, lq_71, by decide +kernel, rfl⟩
theorem kl_23 : lkV RL 23 yX9_as RX9 := ⟨lq_466, lq_467, lq_468⟩
theorem okl_X9_as : okC yX9_as cX9_as 4 (some .int) 2 := ⟨lq_469, lq_60, by decide +kernel, rfl⟩
theorem kl_26 : lkV RL 26 yX10_as RX10 := ⟨lq_1196, lq_1197, lq_1198⟩
theorem okl_X10_as : okC yX10_as cX10_as 3 (some .int) 2 := ⟨lq_1199, lq_71, by decide +kernel, rfl⟩
theorem kl_27 : lkV RL 27 yX9_set RX9 := ⟨lq_478, lq_479, lq_480⟩
theorem okl_X9_set : okC yX9_set cX9_set 4 (some .int) 3 := ⟨lq_481, lq_60, by decide +kernel, rfl⟩
theorem kl_30 : lkV RL 30 yX10_set RX10 := ⟨lq_1203, lq_1204, lq_1205⟩
theorem okl_X10_set : okC yX10_set cX10_set 7 (some .int) 3 := ⟨lq_1206, lq_71, by decide +kernel, rfl⟩
theorem kl_31 : lkV RL 31 yX9_melt RX9 := ⟨lq_489, lq_490, lq_491⟩
theorem okl_X9_melt : okC yX9_melt cX9_melt 4 (some .int) 1 := ⟨lq_492, lq_60, by decide +kernel, rfl⟩
theorem kl_35 : lkV RL 35 yX10_melt RX10 := ⟨lq_1207, lq_1208, lq_1209⟩
theorem okl_X10_melt : okC yX10_melt cX10_melt 3 (some .int) 1 := ⟨lq_1210, lq_71, by decide +kernel, rfl⟩
theorem kl_36 : lkV RL 36 yX9_drink RX9 := ⟨lq_503, lq_504, lq_505⟩
theorem okl_X9_drink : okC yX9_drink cX9_drink 4 (some .int) 1 := ⟨lq_506, lq_60, by decide +kernel, rfl⟩
theorem kl_39 : lkV RL 39 yX10_drink RX10 := ⟨lq_1216, lq_1217, lq_1218⟩
theorem okl_X10_drink : okC yX10_drink cX10_drink 3 (some .int) 1 := ⟨lq_1219, lq_71, by decide +kernel, rfl⟩
theorem kl_40 : lkV RL 40 yX9_have RX9 := ⟨lq_507, lq_508, lq_509⟩
theorem okl_X9_have : okC yX9_have cX9_have 4 (some .int) 2 := ⟨lq_510, lq_60, by decide +kernel, rfl⟩
theorem kl_43 : lkV RL 43 yX10_have RX10 := ⟨lq_1220, lq_1221, lq_1222⟩
theorem okl_X10_have : okC yX10_have cX10_have 6 (some .int) 2 := ⟨lq_1223, lq_71, by decide +kernel, rfl⟩
theorem kl_46 : lkV RL 46 yX9_feed RX9 := ⟨lq_512, lq_513, lq_514⟩
theorem okl_X9_feed : okC yX9_feed cX9_feed 5 (some .int) 2 := ⟨lq_515, lq_60, by decide +kernel, rfl⟩
theorem kl_50 : lkV RL 50 yX10_feed RX10 := ⟨lq_1092, lq_1093, lq_1094⟩
theorem okl_X10_feed : okC yX10_feed cX10_feed 5 (some .int) 2 := ⟨lq_1095, lq_71, by decide +kernel, rfl⟩
theorem kl_51 : lkV RL 51 yX9_text RX9 := ⟨lq_521, lq_522, lq_523⟩
theorem okl_X9_text : okC yX9_text cX9_text 3 (some .int) 1 := ⟨lq_524, lq_60, by decide +kernel, rfl⟩
theorem kl_54 : lkV RL 54 yX10_text RX10 := ⟨lq_1097, lq_1098, lq_1099⟩
theorem okl_X10_text : okC yX10_text cX10_text 5 (some .int) 1 := ⟨lq_1100, lq_71, by decide +kernel, rfl⟩
theorem kl_55 : lkV RL 55 yX9_untell RX9 := ⟨lq_661, lq_662, lq_663⟩
theorem okl_X9_untell : okC yX9_untell cX9_untell 4 (some .int) 1 := ⟨lq_664, lq_60, by decide +kernel, rfl⟩
theorem kl_58 : lkV RL 58 yX10_untell RX10 := ⟨lq_1141, lq_1142, lq_1143⟩
theorem okl_X10_untell : okC yX10_untell cX10_untell 3 (some .int) 1 := ⟨lq_1144, lq_71, by decide +kernel, rfl⟩
theorem kl_59 : lkV RL 59 yX9_word RX9 := ⟨lq_666, lq_667, lq_668⟩
theorem okl_X9_word : okC yX9_word cX9_word 3 (some .int) 0 := ⟨lq_669, lq_60, by decide +kernel, rfl⟩
theorem kl_63 : lkV RL 63 yX10_word RX10 := ⟨lq_1224, lq_1225, lq_1226⟩
theorem okl_X10_word : okC yX10_word cX10_word 5 (some .int) 0 := ⟨lq_1227, lq_71, by decide +kernel, rfl⟩
theorem kl_64 : lkV RL 64 yX9_decree RX9 := ⟨lq_678, lq_679, lq_680⟩
theorem okl_X9_decree : okC yX9_decree cX9_decree 2 (some .int) 0 := ⟨lq_681, lq_60, by decide +kernel, rfl⟩
theorem kl_67 : lkV RL 67 yX10_decree RX10 := ⟨lq_1231, lq_1232, lq_1233⟩
theorem okl_X10_decree : okC yX10_decree cX10_decree 5 (some .int) 0 := ⟨lq_1234, lq_71, by decide +kernel, rfl⟩
theorem kl_68 : lkV RL 68 yX9_lay RX9 := ⟨lq_697, lq_698, lq_699⟩
theorem okl_X9_lay : okC yX9_lay cX9_lay 4 (some .int) 2 := ⟨lq_700, lq_60, by decide +kernel, rfl⟩
theorem kl_71 : lkV RL 71 yX10_lay RX10 := ⟨lq_1239, lq_1240, lq_1241⟩
theorem okl_X10_lay : okC yX10_lay cX10_lay 4 (some .int) 2 := ⟨lq_1242, lq_71, by decide +kernel, rfl⟩
theorem kl_72 : lkV RL 72 yX9_sort RX9 := ⟨lq_702, lq_703, lq_704⟩
theorem okl_X9_sort : okC yX9_sort cX9_sort 2 (some .int) 1 := ⟨lq_705, lq_60, by decide +kernel, rfl⟩
theorem kl_75 : lkV RL 75 yX10_sort RX10 := ⟨lq_1246, lq_1247, lq_1248⟩
theorem okl_X10_sort : okC yX10_sort cX10_sort 4 (some .int) 1 := ⟨lq_1249, lq_71, by decide +kernel, rfl⟩
theorem kl_76 : lkV RL 76 yX9_pageIs RX9 := ⟨lq_715, lq_716, lq_717⟩
theorem okl_X9_pageIs : okC yX9_pageIs cX9_pageIs 4 (some .int) 2 := ⟨lq_718, lq_60, by decide +kernel, rfl⟩
theorem kl_79 : lkV RL 79 yX10_pageIs RX10 := ⟨lq_1250, lq_1251, lq_1252⟩
theorem okl_X10_pageIs : okC yX10_pageIs cX10_pageIs 3 (some .int) 2 := ⟨lq_1253, lq_71, by decide +kernel, rfl⟩
theorem kl_80 : lkV RL 80 yX9_press RX9 := ⟨lq_724, lq_725, lq_726⟩
theorem okl_X9_press : okC yX9_press cX9_press 5 (some .int) 2 := ⟨lq_727, lq_60, by decide +kernel, rfl⟩
theorem kl_83 : lkV RL 83 yX10_press RX10 := ⟨lq_1258, lq_1259, lq_1260⟩
theorem okl_X10_press : okC yX10_press cX10_press 5 (some .int) 2 := ⟨lq_1261, lq_71, by decide +kernel, rfl⟩
theorem kl_84 : lkV RL 84 yX9_run RX9 := ⟨lq_740, lq_741, lq_742⟩
theorem okl_X9_run : okC yX9_run cX9_run 3 (some .int) 2 := ⟨lq_743, lq_60, by decide +kernel, rfl⟩
theorem kl_87 : lkV RL 87 yX10_run RX10 := ⟨lq_1270, lq_1271, lq_1272⟩
theorem okl_X10_run : okC yX10_run cX10_run 3 (some .int) 2 := ⟨lq_1273, lq_71, by decide +kernel, rfl⟩
theorem kl_88 : lkV RL 88 yX9_lost RX9 := ⟨lq_770, lq_771, lq_772⟩
theorem okl_X9_lost : okC yX9_lost cX9_lost 4 (some .int) 1 := ⟨lq_773, lq_60, by decide +kernel, rfl⟩
theorem kl_91 : lkV RL 91 yX10_lost RX10 := ⟨lq_1284, lq_1285, lq_1286⟩
theorem okl_X10_lost : okC yX10_lost cX10_lost 5 (some .int) 1 := ⟨lq_1287, lq_71, by decide +kernel, rfl⟩
theorem kl_92 : lkV RL 92 yX9_then RX9 := ⟨lq_780, lq_781, lq_782⟩
theorem okl_X9_then : okC yX9_then cX9_then 6 (some .int) 3 := ⟨lq_783, lq_60, by decide +kernel, rfl⟩
theorem kl_95 : lkV RL 95 yX10_then RX10 := ⟨lq_1288, lq_1289, lq_1290⟩
theorem okl_X10_then : okC yX10_then cX10_then 6 (some .int) 3 := ⟨lq_1291, lq_71, by decide +kernel, rfl⟩
theorem kl_96 : lkV RL 96 yX9_order RX9 := ⟨lq_785, lq_786, lq_787⟩
theorem okl_X9_order : okC yX9_order cX9_order 3 (some .int) 2 := ⟨lq_788, lq_60, by decide +kernel, rfl⟩
theorem kl_99 : lkV RL 99 yX10_order RX10 := ⟨lq_1292, lq_1293, lq_1294⟩
theorem okl_X10_order : okC yX10_order cX10_order 4 (some .int) 2 := ⟨lq_1295, lq_71, by decide +kernel, rfl⟩
theorem kl_100 : lkV RL 100 yX9_room RX9 := ⟨lq_818, lq_819, lq_820⟩
theorem okl_X9_room : okC yX9_room cX9_room 7 (some .int) 2 := ⟨lq_821, lq_60, by decide +kernel, rfl⟩
theorem kl_103 : lkV RL 103 yX10_room RX10 := ⟨lq_1304, lq_1305, lq_1306⟩
theorem okl_X10_room : okC yX10_room cX10_room 5 (some .int) 2 := ⟨lq_1307, lq_71, by decide +kernel, rfl⟩
theorem kl_104 : lkV RL 104 yX9_needs RX9 := ⟨lq_826, lq_827, lq_828⟩
theorem okl_X9_needs : okC yX9_needs cX9_needs 5 (some .int) 2 := ⟨lq_829, lq_60, by decide +kernel, rfl⟩
theorem kl_107 : lkV RL 107 yX10_needs RX10 := ⟨lq_1312, lq_1313, lq_1314⟩
theorem okl_X10_needs : okC yX10_needs cX10_needs 4 (some .int) 2 := ⟨lq_1315, lq_71, by decide +kernel, rfl⟩
theorem kl_108 : lkV RL 108 yX9_said RX9 := ⟨lq_830, lq_831, lq_832⟩
theorem okl_X9_said : okC yX9_said cX9_said 4 (some .int) 1 := ⟨lq_833, lq_60, by decide +kernel, rfl⟩
theorem kl_111 : lkV RL 111 yX10_said RX10 := ⟨lq_1320, lq_1321, lq_1322⟩
theorem okl_X10_said : okC yX10_said cX10_said 4 (some .int) 1 := ⟨lq_1323, lq_71, by decide +kernel, rfl⟩
theorem kl_112 : lkV RL 112 yX9_inCase RX9 := ⟨lq_838, lq_839, lq_840⟩
theorem okl_X9_inCase : okC yX9_inCase cX9_inCase 2 (some .int) 1 := ⟨lq_841, lq_60, by decide +kernel, rfl⟩
theorem kl_115 : lkV RL 115 yX10_inCase RX10 := ⟨lq_1328, lq_1329, lq_1330⟩
theorem okl_X10_inCase : okC yX10_inCase cX10_inCase 2 (some .int) 1 := ⟨lq_1331, lq_71, by decide +kernel, rfl⟩
theorem kl_116 : lkV RL 116 yX9_days RX9 := ⟨lq_843, lq_844, lq_845⟩
theorem okl_X9_days : okC yX9_days cX9_days 4 (some .int) 1 := ⟨lq_846, lq_60, by decide +kernel, rfl⟩
theorem kl_119 : lkV RL 119 yX10_days RX10 := ⟨lq_1332, lq_1333, lq_1334⟩
theorem okl_X10_days : okC yX10_days cX10_days 4 (some .int) 1 := ⟨lq_1335, lq_71, by decide +kernel, rfl⟩
theorem kl_120 : lkV RL 120 yX9_seed RX9 := ⟨lq_852, lq_853, lq_854⟩
theorem okl_X9_seed : okC yX9_seed cX9_seed 3 (some .int) 1 := ⟨lq_855, lq_60, by decide +kernel, rfl⟩
theorem kl_123 : lkV RL 123 yX10_seed RX10 := ⟨lq_1345, lq_1346, lq_1347⟩
theorem okl_X10_seed : okC yX10_seed cX10_seed 3 (some .int) 1 := ⟨lq_1348, lq_71, by decide +kernel, rfl⟩
theorem kl_124 : lkV RL 124 yX9_voice RX9 := ⟨lq_856, lq_857, lq_858⟩
theorem okl_X9_voice : okC yX9_voice cX9_voice 5 (some .int) 3 := ⟨lq_859, lq_60, by decide +kernel, rfl⟩
theorem kl_127 : lkV RL 127 yX10_voice RX10 := ⟨lq_1349, lq_1350, lq_1351⟩
theorem okl_X10_voice : okC yX10_voice cX10_voice 6 (some .int) 3 := ⟨lq_1352, lq_71, by decide +kernel, rfl⟩
theorem kl_128 : lkV RL 128 yX9_body RX9 := ⟨lq_888, lq_889, lq_890⟩
theorem okl_X9_body : okC yX9_body cX9_body 2 (some .int) 1 := ⟨lq_891, lq_60, by decide +kernel, rfl⟩
theorem kl_131 : lkV RL 131 yX10_body RX10 := ⟨lq_1384, lq_1385, lq_1386⟩
theorem okl_X10_body : okC yX10_body cX10_body 2 (some .int) 1 := ⟨lq_1387, lq_71, by decide +kernel, rfl⟩
theorem kl_132 : lkV RL 132 yX9_sheet RX9 := ⟨lq_892, lq_893, lq_894⟩
theorem okl_X9_sheet : okC yX9_sheet cX9_sheet 4 (some .int) 3 := ⟨lq_895, lq_60, by decide +kernel, rfl⟩
theorem kl_135 : lkV RL 135 yX10_sheet RX10 := ⟨lq_1388, lq_1389, lq_1390⟩
theorem okl_X10_sheet : okC yX10_sheet cX10_sheet 5 (some .int) 3 := ⟨lq_1391, lq_71, by decide +kernel, rfl⟩
theorem kl_136 : lkV RL 136 yX9_put RX9 := ⟨lq_904, lq_905, lq_906⟩
theorem okl_X9_put : okC yX9_put cX9_put 5 (some .int) 3 := ⟨lq_907, lq_60, by decide +kernel, rfl⟩
theorem kl_139 : lkV RL 139 yX10_put RX10 := ⟨lq_1395, lq_1396, lq_1397⟩
theorem okl_X10_put : okC yX10_put cX10_put 5 (some .int) 3 := ⟨lq_1398, lq_71, by decide +kernel, rfl⟩
theorem kl_140 : lkV RL 140 yX9_move RX9 := ⟨lq_920, lq_921, lq_922⟩
theorem okl_X9_move : okC yX9_move cX9_move 8 (some .int) 5 := ⟨lq_923, lq_60, by decide +kernel, rfl⟩
theorem kl_144 : lkV RL 144 yX10_move RX10 := ⟨lq_1399, lq_1400, lq_1401⟩
theorem okl_X10_move : okC yX10_move cX10_move 7 (some .int) 5 := ⟨lq_1402, lq_71, by decide +kernel, rfl⟩
theorem kl_145 : lkV RL 145 yX9_casts RX9 := ⟨lq_932, lq_933, lq_934⟩
theorem okl_X9_casts : okC yX9_casts cX9_casts 5 (some .int) 1 := ⟨lq_935, lq_60, by decide +kernel, rfl⟩
theorem kl_148 : lkV RL 148 yX10_casts RX10 := ⟨lq_1403, lq_1404, lq_1405⟩
theorem okl_X10_casts : okC yX10_casts cX10_casts 6 (some .int) 1 := ⟨lq_1406, lq_71, by decide +kernel, rfl⟩
theorem kl_149 : lkV RL 149 yX9_judge RX9 := ⟨lq_936, lq_937, lq_938⟩
theorem okl_X9_judge : okC yX9_judge cX9_judge 5 (some .int) 2 := ⟨lq_939, lq_60, by decide +kernel, rfl⟩
theorem kl_152 : lkV RL 152 yX10_judge RX10 := ⟨lq_1411, lq_1412, lq_1413⟩
theorem okl_X10_judge : okC yX10_judge cX10_judge 6 (some .int) 2 := ⟨lq_1414, lq_71, by decide +kernel, rfl⟩
theorem kl_153 : lkV RL 153 yX9_image RX9 := ⟨lq_941, lq_942, lq_943⟩
theorem okl_X9_image : okC yX9_image cX9_image 1 (some .int) 0 := ⟨lq_944, lq_60, by decide +kernel, rfl⟩
theorem kl_156 : lkV RL 156 yX10_image RX10 := ⟨lq_1415, lq_1416, lq_1417⟩
theorem okl_X10_image : okC yX10_image cX10_image 1 (some .int) 0 := ⟨lq_1418, lq_71, by decide +kernel, rfl⟩
theorem kl_157 : lkV RL 157 yX9_restore RX9 := ⟨lq_952, lq_953, lq_954⟩
theorem okl_X9_restore : okC yX9_restore cX9_restore 1 (some .int) 0 := ⟨lq_955, lq_60, by decide +kernel, rfl⟩
theorem kl_160 : lkV RL 160 yX10_restore RX10 := ⟨lq_1419, lq_1420, lq_1421⟩
theorem okl_X10_restore : okC yX10_restore cX10_restore 1 (some .int) 0 := ⟨lq_1422, lq_71, by decide +kernel, rfl⟩
theorem kl_161 : lkV RL 161 yX9_tell RX9 := ⟨lq_956, lq_957, lq_958⟩
theorem okl_X9_tell : okC yX9_tell cX9_tell 2 (some .int) 1 := ⟨lq_959, lq_60, by decide +kernel, rfl⟩
theorem kl_164 : lkV RL 164 yX10_tell RX10 := ⟨lq_1423, lq_1424, lq_1425⟩
theorem okl_X10_tell : okC yX10_tell cX10_tell 2 (some .int) 1 := ⟨lq_1426, lq_71, by decide +kernel, rfl⟩
theorem kl_165 : lkV RL 165 yX9_check RX9 := ⟨lq_960, lq_961, lq_962⟩
theorem okl_X9_check : okC yX9_check cX9_check 3 (some .int) 1 := ⟨lq_963, lq_60, by decide +kernel, rfl⟩
theorem kl_168 : lkV RL 168 yX10_check RX10 := ⟨lq_1427, lq_1428, lq_1429⟩
theorem okl_X10_check : okC yX10_check cX10_check 5 (some .int) 1 := ⟨lq_1430, lq_71, by decide +kernel, rfl⟩
theorem kl_169 : lkV RL 169 yX9_count RX9 := ⟨lq_968, lq_969, lq_970⟩
theorem okl_X9_count : okC yX9_count cX9_count 2 (some .int) 1 := ⟨lq_971, lq_60, by decide +kernel, rfl⟩
theorem kl_172 : lkV RL 172 yX10_count RX10 := ⟨lq_1431, lq_1432, lq_1433⟩
theorem okl_X10_count : okC yX10_count cX10_count 2 (some .int) 1 := ⟨lq_1434, lq_71, by decide +kernel, rfl⟩
theorem kl_173 : lkV RL 173 yX9_told RX9 := ⟨lq_976, lq_977, lq_978⟩
theorem okl_X9_told : okC yX9_told cX9_told 2 (some .int) 1 := ⟨lq_979, lq_60, by decide +kernel, rfl⟩
theorem kl_176 : lkV RL 176 yX10_told RX10 := ⟨lq_1439, lq_1440, lq_1441⟩
theorem okl_X10_told : okC yX10_told cX10_told 2 (some .int) 1 := ⟨lq_1442, lq_71, by decide +kernel, rfl⟩
