theorem dX12_init_474 : decode cX12_init 474 = .ok (.aload_n 0, 1) := by decide +kernel
theorem dX12_init_475 : decode cX12_init 475 = .ok (.bipush 24, 2) := by decide +kernel
theorem dX12_init_477 : decode cX12_init 477 = .ok (.newarray .int, 2) := by decide +kernel
theorem dX12_init_479 : decode cX12_init 479 = .ok (.putfield 188, 3) := by decide +kernel
theorem dX12_init_482 : decode cX12_init 482 = .ok (.aload_n 0, 1) := by decide +kernel
theorem dX12_init_483 : decode cX12_init 483 = .ok (.bipush 24, 2) := by decide +kernel
theorem dX12_init_485 : decode cX12_init 485 = .ok (.newarray .int, 2) := by decide +kernel
theorem dX12_init_487 : decode cX12_init 487 = .ok (.putfield 191, 3) := by decide +kernel
theorem dX12_init_490 : decode cX12_init 490 = .ok (.aload_n 0, 1) := by decide +kernel
theorem dX12_init_491 : decode cX12_init 491 = .ok (.bipush 24, 2) := by decide +kernel
theorem dX12_init_493 : decode cX12_init 493 = .ok (.newarray .int, 2) := by decide +kernel
theorem dX12_init_495 : decode cX12_init 495 = .ok (.putfield 194, 3) := by decide +kernel
theorem dX12_init_498 : decode cX12_init 498 = .ok (.aload_n 0, 1) := by decide +kernel
theorem dX12_init_499 : decode cX12_init 499 = .ok (.sipush 1525, 3) := by decide +kernel
theorem dX12_init_502 : decode cX12_init 502 = .ok (.newarray .int, 2) := by decide +kernel
theorem dX12_init_504 : decode cX12_init 504 = .ok (.putfield 197, 3) := by decide +kernel
theorem dX12_init_507 : decode cX12_init 507 = .ok (.aload_n 0, 1) := by decide +kernel
theorem dX12_init_508 : decode cX12_init 508 = .ok (.bipush 24, 2) := by decide +kernel
theorem dX12_init_510 : decode cX12_init 510 = .ok (.newarray .boolean, 2) := by decide +kernel
theorem dX12_init_512 : decode cX12_init 512 = .ok (.putfield 200, 3) := by decide +kernel
theorem dX12_init_515 : decode cX12_init 515 = .ok (.aload_n 0, 1) := by decide +kernel
theorem dX12_init_516 : decode cX12_init 516 = .ok (.getfield 34, 3) := by decide +kernel
theorem dX12_init_519 : decode cX12_init 519 = .ok (.iconst 0, 1) := by decide +kernel
theorem dX12_init_520 : decode cX12_init 520 = .ok (.bipush 98, 2) := by decide +kernel
theorem dX12_init_522 : decode cX12_init 522 = .ok (.bipush 105, 2) := by decide +kernel
theorem dX12_init_524 : decode cX12_init 524 = .ok (.bipush 100, 2) := by decide +kernel
theorem dX12_init_526 : decode cX12_init 526 = .ok (.iconst 0, 1) := by decide +kernel
theorem dX12_init_527 : decode cX12_init 527 = .ok (.iconst 0, 1) := by decide +kernel
theorem dX12_init_528 : decode cX12_init 528 = .ok (.iconst 0, 1) := by decide +kernel
theorem dX12_init_529 : decode cX12_init 529 = .ok (.iconst 0, 1) := by decide +kernel
theorem dX12_init_530 : decode cX12_init 530 = .ok (.invokestatic 203, 3) := by decide +kernel
theorem dX12_init_533 : decode cX12_init 533 = .ok (.lastore, 1) := by decide +kernel
theorem dX12_init_534 : decode cX12_init 534 = .ok (.aload_n 0, 1) := by decide +kernel
theorem dX12_init_535 : decode cX12_init 535 = .ok (.getfield 34, 3) := by decide +kernel
theorem dX12_init_538 : decode cX12_init 538 = .ok (.iconst 1, 1) := by decide +kernel
theorem dX12_init_539 : decode cX12_init 539 = .ok (.bipush 115, 2) := by decide +kernel
theorem dX12_init_541 : decode cX12_init 541 = .ok (.bipush 116, 2) := by decide +kernel
theorem dX12_init_543 : decode cX12_init 543 = .ok (.bipush 97, 2) := by decide +kernel
theorem dX12_init_545 : decode cX12_init 545 = .ok (.bipush 114, 2) := by decide +kernel
theorem dX12_init_547 : decode cX12_init 547 = .ok (.bipush 116, 2) := by decide +kernel
theorem dX12_init_549 : decode cX12_init 549 = .ok (.iconst 0, 1) := by decide +kernel
theorem dX12_init_550 : decode cX12_init 550 = .ok (.iconst 0, 1) := by decide +kernel
theorem dX12_init_551 : decode cX12_init 551 = .ok (.invokestatic 203, 3) := by decide +kernel
theorem dX12_init_554 : decode cX12_init 554 = .ok (.lastore, 1) := by decide +kernel
theorem dX12_init_555 : decode cX12_init 555 = .ok (.aload_n 0, 1) := by decide +kernel
theorem dX12_init_556 : decode cX12_init 556 = .ok (.getfield 34, 3) := by decide +kernel
theorem dX12_init_559 : decode cX12_init 559 = .ok (.iconst 2, 1) := by decide +kernel
theorem dX12_init_560 : decode cX12_init 560 = .ok (.bipush 108, 2) := by decide +kernel
theorem dX12_init_562 : decode cX12_init 562 = .ok (.bipush 101, 2) := by decide +kernel
theorem dX12_init_564 : decode cX12_init 564 = .ok (.bipush 97, 2) := by decide +kernel
theorem dX12_init_566 : decode cX12_init 566 = .ok (.bipush 115, 2) := by decide +kernel
theorem dX12_init_568 : decode cX12_init 568 = .ok (.bipush 116, 2) := by decide +kernel
theorem dX12_init_570 : decode cX12_init 570 = .ok (.iconst 0, 1) := by decide +kernel
theorem dX12_init_571 : decode cX12_init 571 = .ok (.iconst 0, 1) := by decide +kernel
theorem dX12_init_572 : decode cX12_init 572 = .ok (.invokestatic 203, 3) := by decide +kernel
theorem dX12_init_575 : decode cX12_init 575 = .ok (.lastore, 1) := by decide +kernel
theorem dX12_init_576 : decode cX12_init 576 = .ok (.aload_n 0, 1) := by decide +kernel
theorem dX12_init_577 : decode cX12_init 577 = .ok (.getfield 34, 3) := by decide +kernel
theorem dX12_init_580 : decode cX12_init 580 = .ok (.iconst 3, 1) := by decide +kernel
theorem dX12_init_581 : decode cX12_init 581 = .ok (.bipush 105, 2) := by decide +kernel
theorem dX12_init_583 : decode cX12_init 583 = .ok (.bipush 102, 2) := by decide +kernel
theorem dX12_init_585 : decode cX12_init 585 = .ok (.iconst 0, 1) := by decide +kernel
theorem dX12_init_586 : decode cX12_init 586 = .ok (.iconst 0, 1) := by decide +kernel
theorem dX12_init_587 : decode cX12_init 587 = .ok (.iconst 0, 1) := by decide +kernel
theorem dX12_init_588 : decode cX12_init 588 = .ok (.iconst 0, 1) := by decide +kernel
theorem dX12_init_589 : decode cX12_init 589 = .ok (.iconst 0, 1) := by decide +kernel
theorem dX12_init_590 : decode cX12_init 590 = .ok (.invokestatic 203, 3) := by decide +kernel
theorem dX12_init_593 : decode cX12_init 593 = .ok (.lastore, 1) := by decide +kernel
theorem dX12_init_594 : decode cX12_init 594 = .ok (.aload_n 0, 1) := by decide +kernel
theorem dX12_init_595 : decode cX12_init 595 = .ok (.getfield 34, 3) := by decide +kernel
theorem dX12_init_598 : decode cX12_init 598 = .ok (.iconst 4, 1) := by decide +kernel
theorem dX12_init_599 : decode cX12_init 599 = .ok (.bipush 111, 2) := by decide +kernel
theorem dX12_init_601 : decode cX12_init 601 = .ok (.bipush 114, 2) := by decide +kernel
theorem dX12_init_603 : decode cX12_init 603 = .ok (.iconst 0, 1) := by decide +kernel
theorem dX12_init_604 : decode cX12_init 604 = .ok (.iconst 0, 1) := by decide +kernel
theorem dX12_init_605 : decode cX12_init 605 = .ok (.iconst 0, 1) := by decide +kernel
theorem dX12_init_606 : decode cX12_init 606 = .ok (.iconst 0, 1) := by decide +kernel
theorem dX12_init_607 : decode cX12_init 607 = .ok (.iconst 0, 1) := by decide +kernel
theorem dX12_init_608 : decode cX12_init 608 = .ok (.invokestatic 203, 3) := by decide +kernel
theorem dX12_init_611 : decode cX12_init 611 = .ok (.lastore, 1) := by decide +kernel
theorem dX12_init_612 : decode cX12_init 612 = .ok (.aload_n 0, 1) := by decide +kernel
theorem dX12_init_613 : decode cX12_init 613 = .ok (.getfield 34, 3) := by decide +kernel
theorem dX12_init_616 : decode cX12_init 616 = .ok (.iconst 5, 1) := by decide +kernel
theorem dX12_init_617 : decode cX12_init 617 = .ok (.bipush 97, 2) := by decide +kernel
theorem dX12_init_619 : decode cX12_init 619 = .ok (.bipush 110, 2) := by decide +kernel
theorem dX12_init_621 : decode cX12_init 621 = .ok (.bipush 100, 2) := by decide +kernel
theorem dX12_init_623 : decode cX12_init 623 = .ok (.iconst 0, 1) := by decide +kernel
theorem dX12_init_624 : decode cX12_init 624 = .ok (.iconst 0, 1) := by decide +kernel
theorem dX12_init_625 : decode cX12_init 625 = .ok (.iconst 0, 1) := by decide +kernel
theorem dX12_init_626 : decode cX12_init 626 = .ok (.iconst 0, 1) := by decide +kernel
theorem dX12_init_627 : decode cX12_init 627 = .ok (.invokestatic 203, 3) := by decide +kernel
theorem dX12_init_630 : decode cX12_init 630 = .ok (.lastore, 1) := by decide +kernel
theorem dX12_init_631 : decode cX12_init 631 = .ok (.aload_n 0, 1) := by decide +kernel
theorem dX12_init_632 : decode cX12_init 632 = .ok (.getfield 34, 3) := by decide +kernel
theorem dX12_init_635 : decode cX12_init 635 = .ok (.bipush 6, 2) := by decide +kernel
theorem dX12_init_637 : decode cX12_init 637 = .ok (.bipush 98, 2) := by decide +kernel
theorem dX12_init_639 : decode cX12_init 639 = .ok (.bipush 111, 2) := by decide +kernel
theorem dX12_init_641 : decode cX12_init 641 = .ok (.bipush 97, 2) := by decide +kernel
theorem dX12_init_643 : decode cX12_init 643 = .ok (.bipush 116, 2) := by decide +kernel
theorem dX12_init_645 : decode cX12_init 645 = .ok (.iconst 0, 1) := by decide +kernel
theorem dX12_init_646 : decode cX12_init 646 = .ok (.iconst 0, 1) := by decide +kernel
theorem dX12_init_647 : decode cX12_init 647 = .ok (.iconst 0, 1) := by decide +kernel
theorem dX12_init_648 : decode cX12_init 648 = .ok (.invokestatic 203, 3) := by decide +kernel
theorem dX12_init_651 : decode cX12_init 651 = .ok (.lastore, 1) := by decide +kernel
theorem dX12_init_652 : decode cX12_init 652 = .ok (.aload_n 0, 1) := by decide +kernel
theorem dX12_init_653 : decode cX12_init 653 = .ok (.getfield 34, 3) := by decide +kernel
theorem dX12_init_656 : decode cX12_init 656 = .ok (.bipush 7, 2) := by decide +kernel
theorem dX12_init_658 : decode cX12_init 658 = .ok (.bipush 107, 2) := by decide +kernel
theorem dX12_init_660 : decode cX12_init 660 = .ok (.bipush 105, 2) := by decide +kernel
theorem dX12_init_662 : decode cX12_init 662 = .ok (.bipush 110, 2) := by decide +kernel
theorem dX12_init_664 : decode cX12_init 664 = .ok (.bipush 100, 2) := by decide +kernel
theorem dX12_init_666 : decode cX12_init 666 = .ok (.iconst 0, 1) := by decide +kernel
theorem dX12_init_667 : decode cX12_init 667 = .ok (.iconst 0, 1) := by decide +kernel
theorem dX12_init_668 : decode cX12_init 668 = .ok (.iconst 0, 1) := by decide +kernel
theorem dX12_init_669 : decode cX12_init 669 = .ok (.invokestatic 203, 3) := by decide +kernel
theorem dX12_init_672 : decode cX12_init 672 = .ok (.lastore, 1) := by decide +kernel
theorem dX12_init_673 : decode cX12_init 673 = .ok (.aload_n 0, 1) := by decide +kernel
theorem dX12_init_674 : decode cX12_init 674 = .ok (.getfield 34, 3) := by decide +kernel
theorem dX12_init_677 : decode cX12_init 677 = .ok (.bipush 8, 2) := by decide +kernel
theorem dX12_init_679 : decode cX12_init 679 = .ok (.bipush 115, 2) := by decide +kernel
theorem dX12_init_681 : decode cX12_init 681 = .ok (.bipush 105, 2) := by decide +kernel
theorem dX12_init_683 : decode cX12_init 683 = .ok (.bipush 122, 2) := by decide +kernel
theorem dX12_init_685 : decode cX12_init 685 = .ok (.bipush 101, 2) := by decide +kernel
theorem dX12_init_687 : decode cX12_init 687 = .ok (.iconst 0, 1) := by decide +kernel
theorem dX12_init_688 : decode cX12_init 688 = .ok (.iconst 0, 1) := by decide +kernel
theorem dX12_init_689 : decode cX12_init 689 = .ok (.iconst 0, 1) := by decide +kernel
theorem dX12_init_690 : decode cX12_init 690 = .ok (.invokestatic 203, 3) := by decide +kernel
theorem dX12_init_693 : decode cX12_init 693 = .ok (.lastore, 1) := by decide +kernel
theorem dX12_init_694 : decode cX12_init 694 = .ok (.aload_n 0, 1) := by decide +kernel
theorem dX12_init_695 : decode cX12_init 695 = .ok (.getfield 34, 3) := by decide +kernel
theorem dX12_init_698 : decode cX12_init 698 = .ok (.bipush 9, 2) := by decide +kernel
theorem dX12_init_700 : decode cX12_init 700 = .ok (.bipush 98, 2) := by decide +kernel
theorem dX12_init_702 : decode cX12_init 702 = .ok (.bipush 111, 2) := by decide +kernel
theorem dX12_init_704 : decode cX12_init 704 = .ok (.bipush 120, 2) := by decide +kernel
theorem dX12_init_706 : decode cX12_init 706 = .ok (.bipush 101, 2) := by decide +kernel
theorem dX12_init_708 : decode cX12_init 708 = .ok (.bipush 115, 2) := by decide +kernel
theorem dX12_init_710 : decode cX12_init 710 = .ok (.iconst 0, 1) := by decide +kernel
theorem dX12_init_711 : decode cX12_init 711 = .ok (.iconst 0, 1) := by decide +kernel
theorem dX12_init_712 : decode cX12_init 712 = .ok (.invokestatic 203, 3) := by decide +kernel
theorem dX12_init_715 : decode cX12_init 715 = .ok (.lastore, 1) := by decide +kernel
theorem dX12_init_716 : decode cX12_init 716 = .ok (.aload_n 0, 1) := by decide +kernel
theorem dX12_init_717 : decode cX12_init 717 = .ok (.getfield 34, 3) := by decide +kernel
theorem dX12_init_720 : decode cX12_init 720 = .ok (.bipush 10, 2) := by decide +kernel
theorem dX12_init_722 : decode cX12_init 722 = .ok (.bipush 113, 2) := by decide +kernel
theorem dX12_init_724 : decode cX12_init 724 = .ok (.bipush 117, 2) := by decide +kernel
theorem dX12_init_726 : decode cX12_init 726 = .ok (.bipush 97, 2) := by decide +kernel
theorem dX12_init_728 : decode cX12_init 728 = .ok (.bipush 108, 2) := by decide +kernel
theorem dX12_init_730 : decode cX12_init 730 = .ok (.bipush 105, 2) := by decide +kernel
theorem dX12_init_732 : decode cX12_init 732 = .ok (.bipush 116, 2) := by decide +kernel
theorem dX12_init_734 : decode cX12_init 734 = .ok (.bipush 121, 2) := by decide +kernel
theorem dX12_init_736 : decode cX12_init 736 = .ok (.invokestatic 203, 3) := by decide +kernel
theorem dX12_init_739 : decode cX12_init 739 = .ok (.lastore, 1) := by decide +kernel
theorem dX12_init_740 : decode cX12_init 740 = .ok (.aload_n 0, 1) := by decide +kernel
theorem dX12_init_741 : decode cX12_init 741 = .ok (.getfield 34, 3) := by decide +kernel
theorem dX12_init_744 : decode cX12_init 744 = .ok (.bipush 11, 2) := by decide +kernel
theorem dX12_init_746 : decode cX12_init 746 = .ok (.bipush 108, 2) := by decide +kernel
theorem dX12_init_748 : decode cX12_init 748 = .ok (.bipush 97, 2) := by decide +kernel
theorem dX12_init_750 : decode cX12_init 750 = .ok (.bipush 115, 2) := by decide +kernel
theorem dX12_init_752 : decode cX12_init 752 = .ok (.bipush 116, 2) := by decide +kernel
theorem dX12_init_754 : decode cX12_init 754 = .ok (.iconst 0, 1) := by decide +kernel
theorem dX12_init_755 : decode cX12_init 755 = .ok (.iconst 0, 1) := by decide +kernel
theorem dX12_init_756 : decode cX12_init 756 = .ok (.iconst 0, 1) := by decide +kernel
theorem dX12_init_757 : decode cX12_init 757 = .ok (.invokestatic 203, 3) := by decide +kernel
theorem dX12_init_760 : decode cX12_init 760 = .ok (.lastore, 1) := by decide +kernel
theorem dX12_init_761 : decode cX12_init 761 = .ok (.aload_n 0, 1) := by decide +kernel
theorem dX12_init_762 : decode cX12_init 762 = .ok (.getfield 34, 3) := by decide +kernel
theorem dX12_init_765 : decode cX12_init 765 = .ok (.bipush 12, 2) := by decide +kernel
theorem dX12_init_767 : decode cX12_init 767 = .ok (.bipush 98, 2) := by decide +kernel
theorem dX12_init_769 : decode cX12_init 769 = .ok (.bipush 111, 2) := by decide +kernel
theorem dX12_init_771 : decode cX12_init 771 = .ok (.bipush 117, 2) := by decide +kernel
theorem dX12_init_773 : decode cX12_init 773 = .ok (.bipush 103, 2) := by decide +kernel
theorem dX12_init_775 : decode cX12_init 775 = .ok (.bipush 104, 2) := by decide +kernel
theorem dX12_init_777 : decode cX12_init 777 = .ok (.bipush 116, 2) := by decide +kernel
theorem dX12_init_779 : decode cX12_init 779 = .ok (.iconst 0, 1) := by decide +kernel
theorem dX12_init_780 : decode cX12_init 780 = .ok (.invokestatic 203, 3) := by decide +kernel
theorem dX12_init_783 : decode cX12_init 783 = .ok (.lastore, 1) := by decide +kernel
theorem dX12_init_784 : decode cX12_init 784 = .ok (.aload_n 0, 1) := by decide +kernel
theorem dX12_init_785 : decode cX12_init 785 = .ok (.getfield 34, 3) := by decide +kernel
theorem dX12_init_788 : decode cX12_init 788 = .ok (.bipush 13, 2) := by decide +kernel
theorem dX12_init_790 : decode cX12_init 790 = .ok (.bipush 119, 2) := by decide +kernel
theorem dX12_init_792 : decode cX12_init 792 = .ok (.bipush 97, 2) := by decide +kernel
theorem dX12_init_794 : decode cX12_init 794 = .ok (.bipush 110, 2) := by decide +kernel
theorem dX12_init_796 : decode cX12_init 796 = .ok (.bipush 116, 2) := by decide +kernel
theorem dX12_init_798 : decode cX12_init 798 = .ok (.bipush 101, 2) := by decide +kernel
theorem dX12_init_800 : decode cX12_init 800 = .ok (.bipush 100, 2) := by decide +kernel
theorem dX12_init_802 : decode cX12_init 802 = .ok (.iconst 0, 1) := by decide +kernel
theorem dX12_init_803 : decode cX12_init 803 = .ok (.invokestatic 203, 3) := by decide +kernel
theorem dX12_init_806 : decode cX12_init 806 = .ok (.lastore, 1) := by decide +kernel
theorem dX12_init_807 : decode cX12_init 807 = .ok (.aload_n 0, 1) := by decide +kernel
theorem dX12_init_808 : decode cX12_init 808 = .ok (.getfield 34, 3) := by decide +kernel
theorem dX12_init_811 : decode cX12_init 811 = .ok (.bipush 14, 2) := by decide +kernel
theorem dX12_init_813 : decode cX12_init 813 = .ok (.bipush 99, 2) := by decide +kernel
theorem dX12_init_815 : decode cX12_init 815 = .ok (.bipush 114, 2) := by decide +kernel
theorem dX12_init_817 : decode cX12_init 817 = .ok (.bipush 101, 2) := by decide +kernel
theorem dX12_init_819 : decode cX12_init 819 = .ok (.bipush 100, 2) := by decide +kernel
theorem dX12_init_821 : decode cX12_init 821 = .ok (.bipush 105, 2) := by decide +kernel
theorem dX12_init_823 : decode cX12_init 823 = .ok (.bipush 116, 2) := by decide +kernel
theorem dX12_init_825 : decode cX12_init 825 = .ok (.iconst 0, 1) := by decide +kernel
theorem dX12_init_826 : decode cX12_init 826 = .ok (.invokestatic 203, 3) := by decide +kernel
theorem dX12_init_829 : decode cX12_init 829 = .ok (.lastore, 1) := by decide +kernel
theorem dX12_init_830 : decode cX12_init 830 = .ok (.aload_n 0, 1) := by decide +kernel
theorem dX12_init_831 : decode cX12_init 831 = .ok (.getfield 34, 3) := by decide +kernel
theorem dX12_init_834 : decode cX12_init 834 = .ok (.bipush 15, 2) := by decide +kernel
theorem dX12_init_836 : decode cX12_init 836 = .ok (.bipush 108, 2) := by decide +kernel
theorem dX12_init_838 : decode cX12_init 838 = .ok (.bipush 111, 2) := by decide +kernel
theorem dX12_init_840 : decode cX12_init 840 = .ok (.bipush 116, 2) := by decide +kernel
theorem dX12_init_842 : decode cX12_init 842 = .ok (.iconst 0, 1) := by decide +kernel
theorem dX12_init_843 : decode cX12_init 843 = .ok (.iconst 0, 1) := by decide +kernel
theorem dX12_init_844 : decode cX12_init 844 = .ok (.iconst 0, 1) := by decide +kernel
theorem dX12_init_845 : decode cX12_init 845 = .ok (.iconst 0, 1) := by decide +kernel
theorem dX12_init_846 : decode cX12_init 846 = .ok (.invokestatic 203, 3) := by decide +kernel
theorem dX12_init_849 : decode cX12_init 849 = .ok (.lastore, 1) := by decide +kernel
theorem dX12_init_850 : decode cX12_init 850 = .ok (.return_, 1) := by decide +kernel
theorem dX12_feed_0 : decode cX12_feed 0 = .ok (.aload_n 0, 1) := by decide +kernel
theorem dX12_feed_1 : decode cX12_feed 1 = .ok (.getfield 207, 3) := by decide +kernel
theorem dX12_feed_4 : decode cX12_feed 4 = .ok (.bipush 20, 2) := by decide +kernel
theorem dX12_feed_6 : decode cX12_feed 6 = .ok (.iadd, 1) := by decide +kernel
theorem dX12_feed_7 : decode cX12_feed 7 = .ok (.sipush 2000, 3) := by decide +kernel
theorem dX12_feed_10 : decode cX12_feed 10 = .ok (.if_icmp .le 5, 3) := by decide +kernel
theorem dX12_feed_13 : decode cX12_feed 13 = .ok (.iconst (-1), 1) := by decide +kernel
theorem dX12_feed_14 : decode cX12_feed 14 = .ok (.ireturn, 1) := by decide +kernel
theorem dX12_feed_15 : decode cX12_feed 15 = .ok (.aload_n 0, 1) := by decide +kernel
theorem dX12_feed_16 : decode cX12_feed 16 = .ok (.iload_n 1, 1) := by decide +kernel
theorem dX12_feed_17 : decode cX12_feed 17 = .ok (.invokevirtual 210, 3) := by decide +kernel
theorem dX12_feed_20 : decode cX12_feed 20 = .ok (.aload_n 0, 1) := by decide +kernel
theorem dX12_feed_21 : decode cX12_feed 21 = .ok (.iload_n 2, 1) := by decide +kernel
theorem dX12_feed_22 : decode cX12_feed 22 = .ok (.invokevirtual 210, 3) := by decide +kernel
theorem dX12_feed_25 : decode cX12_feed 25 = .ok (.aload_n 0, 1) := by decide +kernel
theorem dX12_feed_26 : decode cX12_feed 26 = .ok (.iload_n 3, 1) := by decide +kernel
theorem dX12_feed_27 : decode cX12_feed 27 = .ok (.invokevirtual 210, 3) := by decide +kernel
theorem dX12_feed_30 : decode cX12_feed 30 = .ok (.aload_n 0, 1) := by decide +kernel
theorem dX12_feed_31 : decode cX12_feed 31 = .ok (.iload 4, 2) := by decide +kernel
theorem dX12_feed_33 : decode cX12_feed 33 = .ok (.invokevirtual 210, 3) := by decide +kernel
theorem dX12_feed_36 : decode cX12_feed 36 = .ok (.aload_n 0, 1) := by decide +kernel
theorem dX12_feed_37 : decode cX12_feed 37 = .ok (.iload 5, 2) := by decide +kernel
theorem dX12_feed_39 : decode cX12_feed 39 = .ok (.invokevirtual 210, 3) := by decide +kernel
theorem dX12_feed_42 : decode cX12_feed 42 = .ok (.aload_n 0, 1) := by decide +kernel
theorem dX12_feed_43 : decode cX12_feed 43 = .ok (.getfield 207, 3) := by decide +kernel
theorem dX12_feed_46 : decode cX12_feed 46 = .ok (.ireturn, 1) := by decide +kernel
theorem dX12_put_0 : decode cX12_put 0 = .ok (.bipush 24, 2) := by decide +kernel
theorem dX12_put_2 : decode cX12_put 2 = .ok (.istore_n 2, 1) := by decide +kernel
theorem dX12_put_3 : decode cX12_put 3 = .ok (.iload_n 2, 1) := by decide +kernel
theorem dX12_put_4 : decode cX12_put 4 = .ok (.ifCond .lt 32, 3) := by decide +kernel
theorem dX12_put_7 : decode cX12_put 7 = .ok (.aload_n 0, 1) := by decide +kernel
theorem dX12_put_8 : decode cX12_put 8 = .ok (.getfield 13, 3) := by decide +kernel
theorem dX12_put_11 : decode cX12_put 11 = .ok (.aload_n 0, 1) := by decide +kernel
theorem dX12_put_12 : decode cX12_put 12 = .ok (.getfield 207, 3) := by decide +kernel
theorem dX12_put_15 : decode cX12_put 15 = .ok (.iload_n 1, 1) := by decide +kernel
theorem dX12_put_16 : decode cX12_put 16 = .ok (.iload_n 2, 1) := by decide +kernel
theorem dX12_put_17 : decode cX12_put 17 = .ok (.ishr, 1) := by decide +kernel
theorem dX12_put_18 : decode cX12_put 18 = .ok (.i2b, 1) := by decide +kernel
theorem dX12_put_19 : decode cX12_put 19 = .ok (.bastore, 1) := by decide +kernel
theorem dX12_put_20 : decode cX12_put 20 = .ok (.aload_n 0, 1) := by decide +kernel
theorem dX12_put_21 : decode cX12_put 21 = .ok (.dup, 1) := by decide +kernel
theorem dX12_put_22 : decode cX12_put 22 = .ok (.getfield 207, 3) := by decide +kernel
theorem dX12_put_25 : decode cX12_put 25 = .ok (.iconst 1, 1) := by decide +kernel
theorem dX12_put_26 : decode cX12_put 26 = .ok (.iadd, 1) := by decide +kernel
theorem dX12_put_27 : decode cX12_put 27 = .ok (.putfield 207, 3) := by decide +kernel
theorem dX12_put_30 : decode cX12_put 30 = .ok (.iinc 2 (-8), 3) := by decide +kernel
theorem dX12_put_33 : decode cX12_put 33 = .ok (.goto (-30), 3) := by decide +kernel
theorem dX12_put_36 : decode cX12_put 36 = .ok (.return_, 1) := by decide +kernel
theorem dX12_back_0 : decode cX12_back 0 = .ok (.iload_n 1, 1) := by decide +kernel
theorem dX12_back_1 : decode cX12_back 1 = .ok (.ifCond .lt 11, 3) := by decide +kernel
theorem dX12_back_4 : decode cX12_back 4 = .ok (.iload_n 1, 1) := by decide +kernel
theorem dX12_back_5 : decode cX12_back 5 = .ok (.aload_n 0, 1) := by decide +kernel
theorem dX12_back_6 : decode cX12_back 6 = .ok (.getfield 207, 3) := by decide +kernel
theorem dX12_back_9 : decode cX12_back 9 = .ok (.if_icmp .le 5, 3) := by decide +kernel
theorem dX12_back_12 : decode cX12_back 12 = .ok (.iconst (-1), 1) := by decide +kernel
theorem dX12_back_13 : decode cX12_back 13 = .ok (.ireturn, 1) := by decide +kernel
theorem dX12_back_14 : decode cX12_back 14 = .ok (.aload_n 0, 1) := by decide +kernel
theorem dX12_back_15 : decode cX12_back 15 = .ok (.dup, 1) := by decide +kernel
theorem dX12_back_16 : decode cX12_back 16 = .ok (.getfield 207, 3) := by decide +kernel
theorem dX12_back_19 : decode cX12_back 19 = .ok (.iload_n 1, 1) := by decide +kernel
theorem dX12_back_20 : decode cX12_back 20 = .ok (.isub, 1) := by decide +kernel
theorem dX12_back_21 : decode cX12_back 21 = .ok (.putfield 207, 3) := by decide +kernel
theorem dX12_back_24 : decode cX12_back 24 = .ok (.aload_n 0, 1) := by decide +kernel
theorem dX12_back_25 : decode cX12_back 25 = .ok (.getfield 207, 3) := by decide +kernel
theorem dX12_back_28 : decode cX12_back 28 = .ok (.ireturn, 1) := by decide +kernel
theorem dX12_at_0 : decode cX12_at 0 = .ok (.iload_n 1, 1) := by decide +kernel
theorem dX12_at_1 : decode cX12_at 1 = .ok (.aload_n 0, 1) := by decide +kernel
theorem dX12_at_2 : decode cX12_at 2 = .ok (.getfield 214, 3) := by decide +kernel
theorem dX12_at_5 : decode cX12_at 5 = .ok (.if_icmp .ge 16, 3) := by decide +kernel
theorem dX12_at_8 : decode cX12_at 8 = .ok (.aload_n 0, 1) := by decide +kernel
theorem dX12_at_9 : decode cX12_at 9 = .ok (.getfield 17, 3) := by decide +kernel
theorem dX12_at_12 : decode cX12_at 12 = .ok (.iload_n 1, 1) := by decide +kernel
theorem dX12_at_13 : decode cX12_at 13 = .ok (.baload, 1) := by decide +kernel
theorem dX12_at_14 : decode cX12_at 14 = .ok (.sipush 255, 3) := by decide +kernel
theorem dX12_at_17 : decode cX12_at 17 = .ok (.iand, 1) := by decide +kernel
theorem dX12_at_18 : decode cX12_at 18 = .ok (.goto 4, 3) := by decide +kernel
theorem dX12_at_21 : decode cX12_at 21 = .ok (.iconst 0, 1) := by decide +kernel
theorem dX12_at_22 : decode cX12_at 22 = .ok (.ireturn, 1) := by decide +kernel
theorem dX12_isDigit_0 : decode cX12_isDigit 0 = .ok (.iload_n 0, 1) := by decide +kernel
theorem dX12_isDigit_1 : decode cX12_isDigit 1 = .ok (.bipush 48, 2) := by decide +kernel
theorem dX12_isDigit_3 : decode cX12_isDigit 3 = .ok (.if_icmp .lt 13, 3) := by decide +kernel
theorem dX12_isDigit_6 : decode cX12_isDigit 6 = .ok (.iload_n 0, 1) := by decide +kernel
theorem dX12_isDigit_7 : decode cX12_isDigit 7 = .ok (.bipush 57, 2) := by decide +kernel
theorem dX12_isDigit_9 : decode cX12_isDigit 9 = .ok (.if_icmp .gt 7, 3) := by decide +kernel
theorem dX12_isDigit_12 : decode cX12_isDigit 12 = .ok (.iconst 1, 1) := by decide +kernel
theorem dX12_isDigit_13 : decode cX12_isDigit 13 = .ok (.goto 4, 3) := by decide +kernel
theorem dX12_isDigit_16 : decode cX12_isDigit 16 = .ok (.iconst 0, 1) := by decide +kernel
theorem dX12_isDigit_17 : decode cX12_isDigit 17 = .ok (.ireturn, 1) := by decide +kernel
theorem dX12_isLetter_0 : decode cX12_isLetter 0 = .ok (.iload_n 0, 1) := by decide +kernel
theorem dX12_isLetter_1 : decode cX12_isLetter 1 = .ok (.bipush 97, 2) := by decide +kernel
theorem dX12_isLetter_3 : decode cX12_isLetter 3 = .ok (.if_icmp .lt 13, 3) := by decide +kernel
theorem dX12_isLetter_6 : decode cX12_isLetter 6 = .ok (.iload_n 0, 1) := by decide +kernel
theorem dX12_isLetter_7 : decode cX12_isLetter 7 = .ok (.bipush 122, 2) := by decide +kernel
theorem dX12_isLetter_9 : decode cX12_isLetter 9 = .ok (.if_icmp .gt 7, 3) := by decide +kernel
theorem dX12_isLetter_12 : decode cX12_isLetter 12 = .ok (.iconst 1, 1) := by decide +kernel
theorem dX12_isLetter_13 : decode cX12_isLetter 13 = .ok (.goto 4, 3) := by decide +kernel
theorem dX12_isLetter_16 : decode cX12_isLetter 16 = .ok (.iconst 0, 1) := by decide +kernel
theorem dX12_isLetter_17 : decode cX12_isLetter 17 = .ok (.ireturn, 1) := by decide +kernel
theorem dX12_more_0 : decode cX12_more 0 = .ok (.iload_n 2, 1) := by decide +kernel
theorem dX12_more_1 : decode cX12_more 1 = .ok (.ifCond .ne 7, 3) := by decide +kernel
theorem dX12_more_4 : decode cX12_more 4 = .ok (.lload_n 0, 1) := by decide +kernel
theorem dX12_more_5 : decode cX12_more 5 = .ok (.goto 16, 3) := by decide +kernel
theorem dX12_more_8 : decode cX12_more 8 = .ok (.ldc2_w 217, 3) := by decide +kernel
theorem dX12_more_11 : decode cX12_more 11 = .ok (.lload_n 0, 1) := by decide +kernel
theorem dX12_more_12 : decode cX12_more 12 = .ok (.lmul, 1) := by decide +kernel
theorem dX12_more_13 : decode cX12_more 13 = .ok (.iload_n 2, 1) := by decide +kernel
theorem dX12_more_14 : decode cX12_more 14 = .ok (.bipush 97, 2) := by decide +kernel
theorem dX12_more_16 : decode cX12_more 16 = .ok (.isub, 1) := by decide +kernel
theorem dX12_more_17 : decode cX12_more 17 = .ok (.iconst 1, 1) := by decide +kernel
theorem dX12_more_18 : decode cX12_more 18 = .ok (.iadd, 1) := by decide +kernel
theorem dX12_more_19 : decode cX12_more 19 = .ok (.i2l, 1) := by decide +kernel
theorem dX12_more_20 : decode cX12_more 20 = .ok (.ladd, 1) := by decide +kernel
theorem dX12_more_21 : decode cX12_more 21 = .ok (.lreturn, 1) := by decide +kernel
theorem dX12_word_0 : decode cX12_word 0 = .ok (.lconst 0, 1) := by decide +kernel
theorem dX12_word_1 : decode cX12_word 1 = .ok (.iload_n 0, 1) := by decide +kernel
theorem dX12_word_2 : decode cX12_word 2 = .ok (.invokestatic 219, 3) := by decide +kernel
theorem dX12_word_5 : decode cX12_word 5 = .ok (.iload_n 1, 1) := by decide +kernel
theorem dX12_word_6 : decode cX12_word 6 = .ok (.invokestatic 219, 3) := by decide +kernel
theorem dX12_word_9 : decode cX12_word 9 = .ok (.iload_n 2, 1) := by decide +kernel
theorem dX12_word_10 : decode cX12_word 10 = .ok (.invokestatic 219, 3) := by decide +kernel
theorem dX12_word_13 : decode cX12_word 13 = .ok (.iload_n 3, 1) := by decide +kernel
theorem dX12_word_14 : decode cX12_word 14 = .ok (.invokestatic 219, 3) := by decide +kernel
theorem dX12_word_17 : decode cX12_word 17 = .ok (.iload 4, 2) := by decide +kernel
theorem dX12_word_19 : decode cX12_word 19 = .ok (.invokestatic 219, 3) := by decide +kernel
theorem dX12_word_22 : decode cX12_word 22 = .ok (.iload 5, 2) := by decide +kernel
theorem dX12_word_24 : decode cX12_word 24 = .ok (.invokestatic 219, 3) := by decide +kernel
theorem dX12_word_27 : decode cX12_word 27 = .ok (.iload 6, 2) := by decide +kernel
theorem dX12_word_29 : decode cX12_word 29 = .ok (.invokestatic 219, 3) := by decide +kernel
theorem dX12_word_32 : decode cX12_word 32 = .ok (.lreturn, 1) := by decide +kernel
theorem dX12_token_0 : decode cX12_token 0 = .ok (.aload_n 0, 1) := by decide +kernel
theorem dX12_token_1 : decode cX12_token 1 = .ok (.getfield 20, 3) := by decide +kernel
theorem dX12_token_4 : decode cX12_token 4 = .ok (.aload_n 0, 1) := by decide +kernel
theorem dX12_token_5 : decode cX12_token 5 = .ok (.getfield 223, 3) := by decide +kernel
theorem dX12_token_8 : decode cX12_token 8 = .ok (.iload_n 1, 1) := by decide +kernel
theorem dX12_token_9 : decode cX12_token 9 = .ok (.iastore, 1) := by decide +kernel
theorem dX12_token_10 : decode cX12_token 10 = .ok (.aload_n 0, 1) := by decide +kernel
theorem dX12_token_11 : decode cX12_token 11 = .ok (.getfield 24, 3) := by decide +kernel
theorem dX12_token_14 : decode cX12_token 14 = .ok (.aload_n 0, 1) := by decide +kernel
theorem dX12_token_15 : decode cX12_token 15 = .ok (.getfield 223, 3) := by decide +kernel
theorem dX12_token_18 : decode cX12_token 18 = .ok (.iload_n 2, 1) := by decide +kernel
theorem dX12_token_19 : decode cX12_token 19 = .ok (.iastore, 1) := by decide +kernel
theorem dX12_token_20 : decode cX12_token 20 = .ok (.aload_n 0, 1) := by decide +kernel
theorem dX12_token_21 : decode cX12_token 21 = .ok (.getfield 27, 3) := by decide +kernel
theorem dX12_token_24 : decode cX12_token 24 = .ok (.aload_n 0, 1) := by decide +kernel
theorem dX12_token_25 : decode cX12_token 25 = .ok (.getfield 223, 3) := by decide +kernel
theorem dX12_token_28 : decode cX12_token 28 = .ok (.iload_n 3, 1) := by decide +kernel
theorem dX12_token_29 : decode cX12_token 29 = .ok (.iastore, 1) := by decide +kernel
theorem dX12_token_30 : decode cX12_token 30 = .ok (.aload_n 0, 1) := by decide +kernel
theorem dX12_token_31 : decode cX12_token 31 = .ok (.getfield 30, 3) := by decide +kernel
theorem dX12_token_34 : decode cX12_token 34 = .ok (.aload_n 0, 1) := by decide +kernel
theorem dX12_token_35 : decode cX12_token 35 = .ok (.getfield 223, 3) := by decide +kernel
theorem dX12_token_38 : decode cX12_token 38 = .ok (.lload 4, 2) := by decide +kernel
theorem dX12_token_40 : decode cX12_token 40 = .ok (.lastore, 1) := by decide +kernel
theorem dX12_token_41 : decode cX12_token 41 = .ok (.aload_n 0, 1) := by decide +kernel
theorem dX12_token_42 : decode cX12_token 42 = .ok (.dup, 1) := by decide +kernel
theorem dX12_token_43 : decode cX12_token 43 = .ok (.getfield 223, 3) := by decide +kernel
theorem dX12_token_46 : decode cX12_token 46 = .ok (.iconst 1, 1) := by decide +kernel
theorem dX12_token_47 : decode cX12_token 47 = .ok (.iadd, 1) := by decide +kernel
theorem dX12_token_48 : decode cX12_token 48 = .ok (.putfield 223, 3) := by decide +kernel
theorem dX12_token_51 : decode cX12_token 51 = .ok (.return_, 1) := by decide +kernel
theorem dX12_cut_0 : decode cX12_cut 0 = .ok (.aload_n 0, 1) := by decide +kernel
theorem dX12_cut_1 : decode cX12_cut 1 = .ok (.iconst 0, 1) := by decide +kernel
theorem dX12_cut_2 : decode cX12_cut 2 = .ok (.putfield 223, 3) := by decide +kernel
theorem dX12_cut_5 : decode cX12_cut 5 = .ok (.iconst 0, 1) := by decide +kernel
theorem dX12_cut_6 : decode cX12_cut 6 = .ok (.istore_n 1, 1) := by decide +kernel
theorem dX12_cut_7 : decode cX12_cut 7 = .ok (.aload_n 0, 1) := by decide +kernel
theorem dX12_cut_8 : decode cX12_cut 8 = .ok (.getfield 223, 3) := by decide +kernel
theorem dX12_cut_11 : decode cX12_cut 11 = .ok (.sipush 400, 3) := by decide +kernel
theorem dX12_cut_14 : decode cX12_cut 14 = .ok (.if_icmp .gt 280, 3) := by decide +kernel
theorem dX12_cut_17 : decode cX12_cut 17 = .ok (.aload_n 0, 1) := by decide +kernel
theorem dX12_cut_18 : decode cX12_cut 18 = .ok (.iload_n 1, 1) := by decide +kernel
theorem dX12_cut_19 : decode cX12_cut 19 = .ok (.invokevirtual 226, 3) := by decide +kernel
theorem dX12_cut_22 : decode cX12_cut 22 = .ok (.istore_n 2, 1) := by decide +kernel
theorem dX12_cut_23 : decode cX12_cut 23 = .ok (.iload_n 1, 1) := by decide +kernel
theorem dX12_cut_24 : decode cX12_cut 24 = .ok (.aload_n 0, 1) := by decide +kernel
theorem dX12_cut_25 : decode cX12_cut 25 = .ok (.getfield 214, 3) := by decide +kernel
theorem dX12_cut_28 : decode cX12_cut 28 = .ok (.if_icmp .lt 15, 3) := by decide +kernel
theorem dX12_cut_31 : decode cX12_cut 31 = .ok (.aload_n 0, 1) := by decide +kernel
theorem dX12_cut_32 : decode cX12_cut 32 = .ok (.iconst 0, 1) := by decide +kernel
theorem dX12_cut_33 : decode cX12_cut 33 = .ok (.aload_n 0, 1) := by decide +kernel
theorem dX12_cut_34 : decode cX12_cut 34 = .ok (.getfield 214, 3) := by decide +kernel
theorem dX12_cut_37 : decode cX12_cut 37 = .ok (.iconst 0, 1) := by decide +kernel
theorem dX12_cut_38 : decode cX12_cut 38 = .ok (.lconst 0, 1) := by decide +kernel
theorem dX12_cut_39 : decode cX12_cut 39 = .ok (.invokevirtual 230, 3) := by decide +kernel
theorem dX12_cut_42 : decode cX12_cut 42 = .ok (.return_, 1) := by decide +kernel
theorem dX12_cut_43 : decode cX12_cut 43 = .ok (.iload_n 2, 1) := by decide +kernel
theorem dX12_cut_44 : decode cX12_cut 44 = .ok (.bipush 9, 2) := by decide +kernel
theorem dX12_cut_46 : decode cX12_cut 46 = .ok (.if_icmp .eq 21, 3) := by decide +kernel
theorem dX12_cut_49 : decode cX12_cut 49 = .ok (.iload_n 2, 1) := by decide +kernel
theorem dX12_cut_50 : decode cX12_cut 50 = .ok (.bipush 10, 2) := by decide +kernel
theorem dX12_cut_52 : decode cX12_cut 52 = .ok (.if_icmp .eq 15, 3) := by decide +kernel
theorem dX12_cut_55 : decode cX12_cut 55 = .ok (.iload_n 2, 1) := by decide +kernel
theorem dX12_cut_56 : decode cX12_cut 56 = .ok (.bipush 13, 2) := by decide +kernel
theorem dX12_cut_58 : decode cX12_cut 58 = .ok (.if_icmp .eq 9, 3) := by decide +kernel
theorem dX12_cut_61 : decode cX12_cut 61 = .ok (.iload_n 2, 1) := by decide +kernel
theorem dX12_cut_62 : decode cX12_cut 62 = .ok (.bipush 32, 2) := by decide +kernel
theorem dX12_cut_64 : decode cX12_cut 64 = .ok (.if_icmp .ne 9, 3) := by decide +kernel
theorem dX12_cut_67 : decode cX12_cut 67 = .ok (.iinc 1 1, 3) := by decide +kernel
theorem dX12_cut_70 : decode cX12_cut 70 = .ok (.goto 221, 3) := by decide +kernel
theorem dX12_cut_73 : decode cX12_cut 73 = .ok (.iload_n 2, 1) := by decide +kernel
theorem dX12_cut_74 : decode cX12_cut 74 = .ok (.invokestatic 234, 3) := by decide +kernel
theorem dX12_cut_77 : decode cX12_cut 77 = .ok (.ifCond .eq 119, 3) := by decide +kernel
theorem dX12_cut_80 : decode cX12_cut 80 = .ok (.iconst 0, 1) := by decide +kernel
theorem dX12_cut_81 : decode cX12_cut 81 = .ok (.istore_n 3, 1) := by decide +kernel
theorem dX12_cut_82 : decode cX12_cut 82 = .ok (.lconst 0, 1) := by decide +kernel
theorem dX12_cut_83 : decode cX12_cut 83 = .ok (.lstore 4, 2) := by decide +kernel
theorem dX12_cut_85 : decode cX12_cut 85 = .ok (.aload_n 0, 1) := by decide +kernel
theorem dX12_cut_86 : decode cX12_cut 86 = .ok (.iload_n 1, 1) := by decide +kernel
theorem dX12_cut_87 : decode cX12_cut 87 = .ok (.iload_n 3, 1) := by decide +kernel
theorem dX12_cut_88 : decode cX12_cut 88 = .ok (.iadd, 1) := by decide +kernel
theorem dX12_cut_89 : decode cX12_cut 89 = .ok (.invokevirtual 226, 3) := by decide +kernel
theorem dX12_cut_92 : decode cX12_cut 92 = .ok (.invokestatic 234, 3) := by decide +kernel
theorem dX12_cut_95 : decode cX12_cut 95 = .ok (.ifCond .eq 29, 3) := by decide +kernel
theorem dX12_cut_98 : decode cX12_cut 98 = .ok (.iload_n 3, 1) := by decide +kernel
theorem dX12_cut_99 : decode cX12_cut 99 = .ok (.bipush 8, 2) := by decide +kernel
theorem dX12_cut_101 : decode cX12_cut 101 = .ok (.if_icmp .ge 17, 3) := by decide +kernel
theorem dX12_cut_104 : decode cX12_cut 104 = .ok (.lload 4, 2) := by decide +kernel
theorem dX12_cut_106 : decode cX12_cut 106 = .ok (.aload_n 0, 1) := by decide +kernel
theorem dX12_cut_107 : decode cX12_cut 107 = .ok (.iload_n 1, 1) := by decide +kernel
theorem dX12_cut_108 : decode cX12_cut 108 = .ok (.iload_n 3, 1) := by decide +kernel
theorem dX12_cut_109 : decode cX12_cut 109 = .ok (.iadd, 1) := by decide +kernel
theorem dX12_cut_110 : decode cX12_cut 110 = .ok (.invokevirtual 226, 3) := by decide +kernel
theorem dX12_cut_113 : decode cX12_cut 113 = .ok (.invokestatic 219, 3) := by decide +kernel
theorem dX12_cut_116 : decode cX12_cut 116 = .ok (.lstore 4, 2) := by decide +kernel
theorem dX12_cut_118 : decode cX12_cut 118 = .ok (.iinc 3 1, 3) := by decide +kernel
theorem dX12_cut_121 : decode cX12_cut 121 = .ok (.goto (-36), 3) := by decide +kernel
theorem dX12_cut_124 : decode cX12_cut 124 = .ok (.iload_n 3, 1) := by decide +kernel
theorem dX12_cut_125 : decode cX12_cut 125 = .ok (.bipush 8, 2) := by decide +kernel
theorem dX12_cut_127 : decode cX12_cut 127 = .ok (.if_icmp .le 7, 3) := by decide +kernel
theorem dX12_cut_130 : decode cX12_cut 130 = .ok (.iconst 3, 1) := by decide +kernel
theorem dX12_cut_131 : decode cX12_cut 131 = .ok (.goto 4, 3) := by decide +kernel
theorem dX12_cut_134 : decode cX12_cut 134 = .ok (.iconst 1, 1) := by decide +kernel
theorem dX12_cut_135 : decode cX12_cut 135 = .ok (.istore 6, 2) := by decide +kernel
theorem dX12_cut_137 : decode cX12_cut 137 = .ok (.iload_n 3, 1) := by decide +kernel
theorem dX12_cut_138 : decode cX12_cut 138 = .ok (.bipush 7, 2) := by decide +kernel
theorem dX12_cut_140 : decode cX12_cut 140 = .ok (.if_icmp .gt 39, 3) := by decide +kernel
theorem dX12_cut_143 : decode cX12_cut 143 = .ok (.iconst 0, 1) := by decide +kernel
theorem dX12_cut_144 : decode cX12_cut 144 = .ok (.istore 7, 2) := by decide +kernel
theorem dX12_cut_146 : decode cX12_cut 146 = .ok (.iload 7, 2) := by decide +kernel
theorem dX12_cut_148 : decode cX12_cut 148 = .ok (.bipush 16, 2) := by decide +kernel
theorem dX12_cut_150 : decode cX12_cut 150 = .ok (.if_icmp .ge 29, 3) := by decide +kernel
theorem dX12_cut_153 : decode cX12_cut 153 = .ok (.aload_n 0, 1) := by decide +kernel
theorem dX12_cut_154 : decode cX12_cut 154 = .ok (.getfield 34, 3) := by decide +kernel
theorem dX12_cut_157 : decode cX12_cut 157 = .ok (.iload 7, 2) := by decide +kernel
theorem dX12_cut_159 : decode cX12_cut 159 = .ok (.laload, 1) := by decide +kernel
theorem dX12_cut_160 : decode cX12_cut 160 = .ok (.lload 4, 2) := by decide +kernel
theorem dX12_cut_162 : decode cX12_cut 162 = .ok (.lcmp, 1) := by decide +kernel
theorem dX12_cut_163 : decode cX12_cut 163 = .ok (.ifCond .ne 10, 3) := by decide +kernel
theorem dX12_cut_166 : decode cX12_cut 166 = .ok (.bipush 20, 2) := by decide +kernel
theorem dX12_cut_168 : decode cX12_cut 168 = .ok (.iload 7, 2) := by decide +kernel
theorem dX12_cut_170 : decode cX12_cut 170 = .ok (.iadd, 1) := by decide +kernel
theorem dX12_cut_171 : decode cX12_cut 171 = .ok (.istore 6, 2) := by decide +kernel
theorem dX12_cut_173 : decode cX12_cut 173 = .ok (.iinc 7 1, 3) := by decide +kernel
theorem dX12_cut_176 : decode cX12_cut 176 = .ok (.goto (-30), 3) := by decide +kernel
theorem dX12_cut_179 : decode cX12_cut 179 = .ok (.aload_n 0, 1) := by decide +kernel
theorem dX12_cut_180 : decode cX12_cut 180 = .ok (.iload 6, 2) := by decide +kernel
theorem dX12_cut_182 : decode cX12_cut 182 = .ok (.iload_n 1, 1) := by decide +kernel
theorem dX12_cut_183 : decode cX12_cut 183 = .ok (.iconst 0, 1) := by decide +kernel
theorem dX12_cut_184 : decode cX12_cut 184 = .ok (.lload 4, 2) := by decide +kernel
theorem dX12_cut_186 : decode cX12_cut 186 = .ok (.invokevirtual 230, 3) := by decide +kernel
theorem dX12_cut_189 : decode cX12_cut 189 = .ok (.iload_n 1, 1) := by decide +kernel
theorem dX12_cut_190 : decode cX12_cut 190 = .ok (.iload_n 3, 1) := by decide +kernel
theorem dX12_cut_191 : decode cX12_cut 191 = .ok (.iadd, 1) := by decide +kernel
theorem dX12_cut_192 : decode cX12_cut 192 = .ok (.istore_n 1, 1) := by decide +kernel
theorem dX12_cut_193 : decode cX12_cut 193 = .ok (.goto 98, 3) := by decide +kernel
theorem dX12_cut_196 : decode cX12_cut 196 = .ok (.iload_n 2, 1) := by decide +kernel
theorem dX12_cut_197 : decode cX12_cut 197 = .ok (.invokestatic 238, 3) := by decide +kernel
theorem dX12_cut_200 : decode cX12_cut 200 = .ok (.ifCond .eq 75, 3) := by decide +kernel
theorem dX12_cut_203 : decode cX12_cut 203 = .ok (.iconst 0, 1) := by decide +kernel
theorem dX12_cut_204 : decode cX12_cut 204 = .ok (.istore_n 3, 1) := by decide +kernel
theorem dX12_cut_205 : decode cX12_cut 205 = .ok (.iconst 0, 1) := by decide +kernel
theorem dX12_cut_206 : decode cX12_cut 206 = .ok (.istore 4, 2) := by decide +kernel
theorem dX12_cut_208 : decode cX12_cut 208 = .ok (.aload_n 0, 1) := by decide +kernel
theorem dX12_cut_209 : decode cX12_cut 209 = .ok (.iload_n 1, 1) := by decide +kernel
theorem dX12_cut_210 : decode cX12_cut 210 = .ok (.iload_n 3, 1) := by decide +kernel
theorem dX12_cut_211 : decode cX12_cut 211 = .ok (.iadd, 1) := by decide +kernel
theorem dX12_cut_212 : decode cX12_cut 212 = .ok (.invokevirtual 226, 3) := by decide +kernel
theorem dX12_cut_215 : decode cX12_cut 215 = .ok (.invokestatic 238, 3) := by decide +kernel
theorem dX12_cut_218 : decode cX12_cut 218 = .ok (.ifCond .eq 32, 3) := by decide +kernel
theorem dX12_cut_221 : decode cX12_cut 221 = .ok (.iload_n 3, 1) := by decide +kernel
theorem dX12_cut_222 : decode cX12_cut 222 = .ok (.iconst 4, 1) := by decide +kernel
theorem dX12_cut_223 : decode cX12_cut 223 = .ok (.if_icmp .ge 21, 3) := by decide +kernel
theorem dX12_cut_226 : decode cX12_cut 226 = .ok (.bipush 10, 2) := by decide +kernel
theorem dX12_cut_228 : decode cX12_cut 228 = .ok (.iload 4, 2) := by decide +kernel
theorem dX12_cut_230 : decode cX12_cut 230 = .ok (.imul, 1) := by decide +kernel
theorem dX12_cut_231 : decode cX12_cut 231 = .ok (.aload_n 0, 1) := by decide +kernel
theorem dX12_cut_232 : decode cX12_cut 232 = .ok (.iload_n 1, 1) := by decide +kernel
theorem dX12_cut_233 : decode cX12_cut 233 = .ok (.iload_n 3, 1) := by decide +kernel
theorem dX12_cut_234 : decode cX12_cut 234 = .ok (.iadd, 1) := by decide +kernel
theorem dX12_cut_235 : decode cX12_cut 235 = .ok (.invokevirtual 226, 3) := by decide +kernel
theorem dX12_cut_238 : decode cX12_cut 238 = .ok (.iadd, 1) := by decide +kernel
theorem dX12_cut_239 : decode cX12_cut 239 = .ok (.bipush 48, 2) := by decide +kernel
theorem dX12_cut_241 : decode cX12_cut 241 = .ok (.isub, 1) := by decide +kernel
theorem dX12_cut_242 : decode cX12_cut 242 = .ok (.istore 4, 2) := by decide +kernel
theorem dX12_cut_244 : decode cX12_cut 244 = .ok (.iinc 3 1, 3) := by decide +kernel
theorem dX12_cut_247 : decode cX12_cut 247 = .ok (.goto (-39), 3) := by decide +kernel
theorem dX12_cut_250 : decode cX12_cut 250 = .ok (.aload_n 0, 1) := by decide +kernel
theorem dX12_cut_251 : decode cX12_cut 251 = .ok (.iload_n 3, 1) := by decide +kernel
theorem dX12_cut_252 : decode cX12_cut 252 = .ok (.iconst 4, 1) := by decide +kernel
theorem dX12_cut_253 : decode cX12_cut 253 = .ok (.if_icmp .le 7, 3) := by decide +kernel
theorem dX12_cut_256 : decode cX12_cut 256 = .ok (.iconst 3, 1) := by decide +kernel
theorem dX12_cut_257 : decode cX12_cut 257 = .ok (.goto 4, 3) := by decide +kernel
theorem dX12_cut_260 : decode cX12_cut 260 = .ok (.iconst 2, 1) := by decide +kernel
theorem dX12_cut_261 : decode cX12_cut 261 = .ok (.iload_n 1, 1) := by decide +kernel
theorem dX12_cut_262 : decode cX12_cut 262 = .ok (.iload 4, 2) := by decide +kernel
theorem dX12_cut_264 : decode cX12_cut 264 = .ok (.lconst 0, 1) := by decide +kernel
theorem dX12_cut_265 : decode cX12_cut 265 = .ok (.invokevirtual 230, 3) := by decide +kernel
theorem dX12_cut_268 : decode cX12_cut 268 = .ok (.iload_n 1, 1) := by decide +kernel
theorem dX12_cut_269 : decode cX12_cut 269 = .ok (.iload_n 3, 1) := by decide +kernel
theorem dX12_cut_270 : decode cX12_cut 270 = .ok (.iadd, 1) := by decide +kernel
theorem dX12_cut_271 : decode cX12_cut 271 = .ok (.istore_n 1, 1) := by decide +kernel
theorem dX12_cut_272 : decode cX12_cut 272 = .ok (.goto 19, 3) := by decide +kernel
theorem dX12_cut_275 : decode cX12_cut 275 = .ok (.iload_n 1, 1) := by decide +kernel
theorem dX12_cut_276 : decode cX12_cut 276 = .ok (.aload_n 0, 1) := by decide +kernel
theorem dX12_cut_277 : decode cX12_cut 277 = .ok (.iload_n 1, 1) := by decide +kernel
theorem dX12_cut_278 : decode cX12_cut 278 = .ok (.iload_n 2, 1) := by decide +kernel
theorem dX12_cut_279 : decode cX12_cut 279 = .ok (.aload_n 0, 1) := by decide +kernel
theorem dX12_cut_280 : decode cX12_cut 280 = .ok (.iload_n 1, 1) := by decide +kernel
theorem dX12_cut_281 : decode cX12_cut 281 = .ok (.iconst 1, 1) := by decide +kernel
theorem dX12_cut_282 : decode cX12_cut 282 = .ok (.iadd, 1) := by decide +kernel
theorem dX12_cut_283 : decode cX12_cut 283 = .ok (.invokevirtual 226, 3) := by decide +kernel
theorem dX12_cut_286 : decode cX12_cut 286 = .ok (.invokevirtual 241, 3) := by decide +kernel
theorem dX12_cut_289 : decode cX12_cut 289 = .ok (.iadd, 1) := by decide +kernel
theorem dX12_cut_290 : decode cX12_cut 290 = .ok (.istore_n 1, 1) := by decide +kernel
theorem dX12_cut_291 : decode cX12_cut 291 = .ok (.goto (-284), 3) := by decide +kernel
theorem dX12_cut_294 : decode cX12_cut 294 = .ok (.return_, 1) := by decide +kernel
theorem dX12_sign_0 : decode cX12_sign 0 = .ok (.iload_n 3, 1) := by decide +kernel
theorem dX12_sign_1 : decode cX12_sign 1 = .ok (.bipush 61, 2) := by decide +kernel
theorem dX12_sign_3 : decode cX12_sign 3 = .ok (.if_icmp .eq 7, 3) := by decide +kernel
theorem dX12_sign_6 : decode cX12_sign 6 = .ok (.iconst 0, 1) := by decide +kernel
theorem dX12_sign_7 : decode cX12_sign 7 = .ok (.goto 37, 3) := by decide +kernel
theorem dX12_sign_10 : decode cX12_sign 10 = .ok (.iload_n 2, 1) := by decide +kernel
theorem dX12_sign_11 : decode cX12_sign 11 = .ok (.bipush 61, 2) := by decide +kernel
theorem dX12_sign_13 : decode cX12_sign 13 = .ok (.if_icmp .ne 8, 3) := by decide +kernel
theorem dX12_sign_16 : decode cX12_sign 16 = .ok (.bipush 11, 2) := by decide +kernel
theorem dX12_sign_18 : decode cX12_sign 18 = .ok (.goto 26, 3) := by decide +kernel
theorem dX12_sign_21 : decode cX12_sign 21 = .ok (.iload_n 2, 1) := by decide +kernel
theorem dX12_sign_22 : decode cX12_sign 22 = .ok (.bipush 33, 2) := by decide +kernel
theorem dX12_sign_24 : decode cX12_sign 24 = .ok (.if_icmp .ne 8, 3) := by decide +kernel
theorem dX12_sign_27 : decode cX12_sign 27 = .ok (.bipush 12, 2) := by decide +kernel
theorem dX12_sign_29 : decode cX12_sign 29 = .ok (.goto 15, 3) := by decide +kernel
theorem dX12_sign_32 : decode cX12_sign 32 = .ok (.iload_n 2, 1) := by decide +kernel
theorem dX12_sign_33 : decode cX12_sign 33 = .ok (.bipush 60, 2) := by decide +kernel
theorem dX12_sign_35 : decode cX12_sign 35 = .ok (.if_icmp .ne 8, 3) := by decide +kernel
theorem dX12_sign_38 : decode cX12_sign 38 = .ok (.bipush 14, 2) := by decide +kernel
theorem dX12_sign_40 : decode cX12_sign 40 = .ok (.goto 4, 3) := by decide +kernel
theorem dX12_sign_43 : decode cX12_sign 43 = .ok (.iconst 0, 1) := by decide +kernel
theorem dX12_sign_44 : decode cX12_sign 44 = .ok (.istore 4, 2) := by decide +kernel
theorem dX12_sign_46 : decode cX12_sign 46 = .ok (.iconst 3, 1) := by decide +kernel
theorem dX12_sign_47 : decode cX12_sign 47 = .ok (.istore 5, 2) := by decide +kernel
theorem dX12_sign_49 : decode cX12_sign 49 = .ok (.iload 4, 2) := by decide +kernel
theorem dX12_sign_51 : decode cX12_sign 51 = .ok (.ifCond .le 10, 3) := by decide +kernel
theorem dX12_sign_54 : decode cX12_sign 54 = .ok (.iload 4, 2) := by decide +kernel
theorem dX12_sign_56 : decode cX12_sign 56 = .ok (.istore 5, 2) := by decide +kernel
theorem dX12_sign_58 : decode cX12_sign 58 = .ok (.goto 90, 3) := by decide +kernel
theorem dX12_sign_61 : decode cX12_sign 61 = .ok (.iload_n 2, 1) := by decide +kernel
theorem dX12_sign_62 : decode cX12_sign 62 = .ok (.bipush 59, 2) := by decide +kernel
theorem dX12_sign_64 : decode cX12_sign 64 = .ok (.if_icmp .ne 9, 3) := by decide +kernel
theorem dX12_sign_67 : decode cX12_sign 67 = .ok (.iconst 4, 1) := by decide +kernel
theorem dX12_sign_68 : decode cX12_sign 68 = .ok (.istore 5, 2) := by decide +kernel
theorem dX12_sign_70 : decode cX12_sign 70 = .ok (.goto 78, 3) := by decide +kernel
theorem dX12_sign_73 : decode cX12_sign 73 = .ok (.iload_n 2, 1) := by decide +kernel
theorem dX12_sign_74 : decode cX12_sign 74 = .ok (.bipush 40, 2) := by decide +kernel
theorem dX12_sign_76 : decode cX12_sign 76 = .ok (.if_icmp .ne 10, 3) := by decide +kernel
theorem dX12_sign_79 : decode cX12_sign 79 = .ok (.bipush 6, 2) := by decide +kernel
theorem dX12_sign_81 : decode cX12_sign 81 = .ok (.istore 5, 2) := by decide +kernel
theorem dX12_sign_83 : decode cX12_sign 83 = .ok (.goto 65, 3) := by decide +kernel
theorem dX12_sign_86 : decode cX12_sign 86 = .ok (.iload_n 2, 1) := by decide +kernel
theorem dX12_sign_87 : decode cX12_sign 87 = .ok (.bipush 41, 2) := by decide +kernel
theorem dX12_sign_89 : decode cX12_sign 89 = .ok (.if_icmp .ne 10, 3) := by decide +kernel
theorem dX12_sign_92 : decode cX12_sign 92 = .ok (.bipush 7, 2) := by decide +kernel
theorem dX12_sign_94 : decode cX12_sign 94 = .ok (.istore 5, 2) := by decide +kernel
theorem dX12_sign_96 : decode cX12_sign 96 = .ok (.goto 52, 3) := by decide +kernel
theorem dX12_sign_99 : decode cX12_sign 99 = .ok (.iload_n 2, 1) := by decide +kernel
theorem dX12_sign_100 : decode cX12_sign 100 = .ok (.bipush 43, 2) := by decide +kernel
theorem dX12_sign_102 : decode cX12_sign 102 = .ok (.if_icmp .ne 10, 3) := by decide +kernel
theorem dX12_sign_105 : decode cX12_sign 105 = .ok (.bipush 8, 2) := by decide +kernel
theorem dX12_sign_107 : decode cX12_sign 107 = .ok (.istore 5, 2) := by decide +kernel
theorem dX12_sign_109 : decode cX12_sign 109 = .ok (.goto 39, 3) := by decide +kernel
theorem dX12_sign_112 : decode cX12_sign 112 = .ok (.iload_n 2, 1) := by decide +kernel
theorem dX12_sign_113 : decode cX12_sign 113 = .ok (.bipush 45, 2) := by decide +kernel
theorem dX12_sign_115 : decode cX12_sign 115 = .ok (.if_icmp .ne 10, 3) := by decide +kernel
theorem dX12_sign_118 : decode cX12_sign 118 = .ok (.bipush 9, 2) := by decide +kernel
theorem dX12_sign_120 : decode cX12_sign 120 = .ok (.istore 5, 2) := by decide +kernel
theorem dX12_sign_122 : decode cX12_sign 122 = .ok (.goto 26, 3) := by decide +kernel
theorem dX12_sign_125 : decode cX12_sign 125 = .ok (.iload_n 2, 1) := by decide +kernel
theorem dX12_sign_126 : decode cX12_sign 126 = .ok (.bipush 42, 2) := by decide +kernel
theorem dX12_sign_128 : decode cX12_sign 128 = .ok (.if_icmp .ne 10, 3) := by decide +kernel
theorem dX12_sign_131 : decode cX12_sign 131 = .ok (.bipush 10, 2) := by decide +kernel
theorem dX12_sign_133 : decode cX12_sign 133 = .ok (.istore 5, 2) := by decide +kernel
theorem dX12_sign_135 : decode cX12_sign 135 = .ok (.goto 13, 3) := by decide +kernel
theorem dX12_sign_138 : decode cX12_sign 138 = .ok (.iload_n 2, 1) := by decide +kernel
theorem dX12_sign_139 : decode cX12_sign 139 = .ok (.bipush 60, 2) := by decide +kernel
theorem dX12_sign_141 : decode cX12_sign 141 = .ok (.if_icmp .ne 7, 3) := by decide +kernel
theorem dX12_sign_144 : decode cX12_sign 144 = .ok (.bipush 13, 2) := by decide +kernel
theorem dX12_sign_146 : decode cX12_sign 146 = .ok (.istore 5, 2) := by decide +kernel
theorem dX12_sign_148 : decode cX12_sign 148 = .ok (.aload_n 0, 1) := by decide +kernel
theorem dX12_sign_149 : decode cX12_sign 149 = .ok (.iload 5, 2) := by decide +kernel
theorem dX12_sign_151 : decode cX12_sign 151 = .ok (.iload_n 1, 1) := by decide +kernel
theorem dX12_sign_152 : decode cX12_sign 152 = .ok (.iconst 0, 1) := by decide +kernel
theorem dX12_sign_153 : decode cX12_sign 153 = .ok (.lconst 0, 1) := by decide +kernel
theorem dX12_sign_154 : decode cX12_sign 154 = .ok (.invokevirtual 230, 3) := by decide +kernel
theorem dX12_sign_157 : decode cX12_sign 157 = .ok (.iload 4, 2) := by decide +kernel
theorem dX12_sign_159 : decode cX12_sign 159 = .ok (.ifCond .le 7, 3) := by decide +kernel
theorem dX12_sign_162 : decode cX12_sign 162 = .ok (.iconst 2, 1) := by decide +kernel
theorem dX12_sign_163 : decode cX12_sign 163 = .ok (.goto 4, 3) := by decide +kernel
theorem dX12_sign_166 : decode cX12_sign 166 = .ok (.iconst 1, 1) := by decide +kernel
theorem dX12_sign_167 : decode cX12_sign 167 = .ok (.ireturn, 1) := by decide +kernel
theorem dX12_is_0 : decode cX12_is 0 = .ok (.aload_n 0, 1) := by decide +kernel
theorem dX12_is_1 : decode cX12_is 1 = .ok (.getfield 245, 3) := by decide +kernel
theorem dX12_is_4 : decode cX12_is 4 = .ok (.ifCond .ne 20, 3) := by decide +kernel
theorem dX12_is_7 : decode cX12_is 7 = .ok (.aload_n 0, 1) := by decide +kernel
theorem dX12_is_8 : decode cX12_is 8 = .ok (.getfield 20, 3) := by decide +kernel
theorem dX12_is_11 : decode cX12_is 11 = .ok (.aload_n 0, 1) := by decide +kernel
theorem dX12_is_12 : decode cX12_is 12 = .ok (.getfield 248, 3) := by decide +kernel
theorem dX12_is_15 : decode cX12_is 15 = .ok (.iaload, 1) := by decide +kernel
theorem dX12_is_16 : decode cX12_is 16 = .ok (.iload_n 1, 1) := by decide +kernel
theorem dX12_is_17 : decode cX12_is 17 = .ok (.if_icmp .ne 7, 3) := by decide +kernel
theorem dX12_is_20 : decode cX12_is 20 = .ok (.iconst 1, 1) := by decide +kernel
theorem dX12_is_21 : decode cX12_is 21 = .ok (.goto 4, 3) := by decide +kernel
theorem dX12_is_24 : decode cX12_is 24 = .ok (.iconst 0, 1) := by decide +kernel
theorem dX12_is_25 : decode cX12_is 25 = .ok (.ireturn, 1) := by decide +kernel
theorem dX12_fail_0 : decode cX12_fail 0 = .ok (.aload_n 0, 1) := by decide +kernel
theorem dX12_fail_1 : decode cX12_fail 1 = .ok (.getfield 245, 3) := by decide +kernel
theorem dX12_fail_4 : decode cX12_fail 4 = .ok (.ifCond .le 4, 3) := by decide +kernel
theorem dX12_fail_7 : decode cX12_fail 7 = .ok (.return_, 1) := by decide +kernel
theorem dX12_fail_8 : decode cX12_fail 8 = .ok (.aload_n 0, 1) := by decide +kernel
theorem dX12_fail_9 : decode cX12_fail 9 = .ok (.iload_n 1, 1) := by decide +kernel
theorem dX12_fail_10 : decode cX12_fail 10 = .ok (.putfield 245, 3) := by decide +kernel
theorem dX12_fail_13 : decode cX12_fail 13 = .ok (.aload_n 0, 1) := by decide +kernel
theorem dX12_fail_14 : decode cX12_fail 14 = .ok (.aload_n 0, 1) := by decide +kernel
theorem dX12_fail_15 : decode cX12_fail 15 = .ok (.getfield 24, 3) := by decide +kernel
theorem dX12_fail_18 : decode cX12_fail 18 = .ok (.aload_n 0, 1) := by decide +kernel
theorem dX12_fail_19 : decode cX12_fail 19 = .ok (.getfield 248, 3) := by decide +kernel
theorem dX12_fail_22 : decode cX12_fail 22 = .ok (.iaload, 1) := by decide +kernel
theorem dX12_fail_23 : decode cX12_fail 23 = .ok (.putfield 251, 3) := by decide +kernel
theorem dX12_fail_26 : decode cX12_fail 26 = .ok (.return_, 1) := by decide +kernel
theorem dX12_next_0 : decode cX12_next 0 = .ok (.aload_n 0, 1) := by decide +kernel
theorem dX12_next_1 : decode cX12_next 1 = .ok (.getfield 248, 3) := by decide +kernel
theorem dX12_next_4 : decode cX12_next 4 = .ok (.sipush 400, 3) := by decide +kernel
theorem dX12_next_7 : decode cX12_next 7 = .ok (.if_icmp .ne 11, 3) := by decide +kernel
theorem dX12_next_10 : decode cX12_next 10 = .ok (.aload_n 0, 1) := by decide +kernel
theorem dX12_next_11 : decode cX12_next 11 = .ok (.iconst 2, 1) := by decide +kernel
theorem dX12_next_12 : decode cX12_next 12 = .ok (.invokevirtual 260, 3) := by decide +kernel
theorem dX12_next_15 : decode cX12_next 15 = .ok (.goto 13, 3) := by decide +kernel
theorem dX12_next_18 : decode cX12_next 18 = .ok (.aload_n 0, 1) := by decide +kernel
theorem dX12_next_19 : decode cX12_next 19 = .ok (.dup, 1) := by decide +kernel
theorem dX12_next_20 : decode cX12_next 20 = .ok (.getfield 248, 3) := by decide +kernel
theorem dX12_next_23 : decode cX12_next 23 = .ok (.iconst 1, 1) := by decide +kernel
theorem dX12_next_24 : decode cX12_next 24 = .ok (.iadd, 1) := by decide +kernel
theorem dX12_next_25 : decode cX12_next 25 = .ok (.putfield 248, 3) := by decide +kernel
theorem dX12_next_28 : decode cX12_next 28 = .ok (.return_, 1) := by decide +kernel
theorem dX12_must_0 : decode cX12_must 0 = .ok (.aload_n 0, 1) := by decide +kernel
theorem dX12_must_1 : decode cX12_must 1 = .ok (.iload_n 1, 1) := by decide +kernel
theorem dX12_must_2 : decode cX12_must 2 = .ok (.invokevirtual 263, 3) := by decide +kernel
theorem dX12_must_5 : decode cX12_must 5 = .ok (.ifCond .eq 10, 3) := by decide +kernel
theorem dX12_must_8 : decode cX12_must 8 = .ok (.aload_n 0, 1) := by decide +kernel
theorem dX12_must_9 : decode cX12_must 9 = .ok (.invokevirtual 266, 3) := by decide +kernel
theorem dX12_must_12 : decode cX12_must 12 = .ok (.goto 8, 3) := by decide +kernel
theorem dX12_must_15 : decode cX12_must 15 = .ok (.aload_n 0, 1) := by decide +kernel
theorem dX12_must_16 : decode cX12_must 16 = .ok (.iconst 1, 1) := by decide +kernel
theorem dX12_must_17 : decode cX12_must 17 = .ok (.invokevirtual 260, 3) := by decide +kernel
theorem dX12_must_20 : decode cX12_must 20 = .ok (.return_, 1) := by decide +kernel
theorem dX12_read_0 : decode cX12_read 0 = .ok (.iload_n 1, 1) := by decide +kernel
theorem dX12_read_1 : decode cX12_read 1 = .ok (.iconst (-1), 1) := by decide +kernel
theorem dX12_read_2 : decode cX12_read 2 = .ok (.if_icmp .lt 11, 3) := by decide +kernel
theorem dX12_read_5 : decode cX12_read 5 = .ok (.iload_n 1, 1) := by decide +kernel
theorem dX12_read_6 : decode cX12_read 6 = .ok (.aload_n 0, 1) := by decide +kernel
theorem dX12_read_7 : decode cX12_read 7 = .ok (.getfield 269, 3) := by decide +kernel
theorem dX12_read_10 : decode cX12_read 10 = .ok (.if_icmp .lt 6, 3) := by decide +kernel
theorem dX12_read_13 : decode cX12_read 13 = .ok (.bipush (-2), 2) := by decide +kernel
theorem dX12_read_15 : decode cX12_read 15 = .ok (.ireturn, 1) := by decide +kernel
theorem dX12_read_16 : decode cX12_read 16 = .ok (.aload_n 0, 1) := by decide +kernel
theorem dX12_read_17 : decode cX12_read 17 = .ok (.aload_n 0, 1) := by decide +kernel
theorem dX12_read_18 : decode cX12_read 18 = .ok (.getfield 207, 3) := by decide +kernel
theorem dX12_read_21 : decode cX12_read 21 = .ok (.putfield 214, 3) := by decide +kernel
theorem dX12_read_24 : decode cX12_read 24 = .ok (.iconst 0, 1) := by decide +kernel
theorem dX12_read_25 : decode cX12_read 25 = .ok (.istore_n 2, 1) := by decide +kernel
theorem dX12_read_26 : decode cX12_read 26 = .ok (.iload_n 2, 1) := by decide +kernel
theorem dX12_read_27 : decode cX12_read 27 = .ok (.aload_n 0, 1) := by decide +kernel
theorem dX12_read_28 : decode cX12_read 28 = .ok (.getfield 214, 3) := by decide +kernel
theorem dX12_read_31 : decode cX12_read 31 = .ok (.if_icmp .ge 21, 3) := by decide +kernel
theorem dX12_read_34 : decode cX12_read 34 = .ok (.aload_n 0, 1) := by decide +kernel
theorem dX12_read_35 : decode cX12_read 35 = .ok (.getfield 17, 3) := by decide +kernel
theorem dX12_read_38 : decode cX12_read 38 = .ok (.iload_n 2, 1) := by decide +kernel
theorem dX12_read_39 : decode cX12_read 39 = .ok (.aload_n 0, 1) := by decide +kernel
theorem dX12_read_40 : decode cX12_read 40 = .ok (.getfield 13, 3) := by decide +kernel
theorem dX12_read_43 : decode cX12_read 43 = .ok (.iload_n 2, 1) := by decide +kernel
theorem dX12_read_44 : decode cX12_read 44 = .ok (.baload, 1) := by decide +kernel
theorem dX12_read_45 : decode cX12_read 45 = .ok (.bastore, 1) := by decide +kernel
theorem dX12_read_46 : decode cX12_read 46 = .ok (.iinc 2 1, 3) := by decide +kernel
theorem dX12_read_49 : decode cX12_read 49 = .ok (.goto (-23), 3) := by decide +kernel
theorem dX12_read_52 : decode cX12_read 52 = .ok (.aload_n 0, 1) := by decide +kernel
theorem dX12_read_53 : decode cX12_read 53 = .ok (.iconst 0, 1) := by decide +kernel
theorem dX12_read_54 : decode cX12_read 54 = .ok (.putfield 207, 3) := by decide +kernel
theorem dX12_read_57 : decode cX12_read 57 = .ok (.aload_n 0, 1) := by decide +kernel
theorem dX12_read_58 : decode cX12_read 58 = .ok (.invokevirtual 272, 3) := by decide +kernel
theorem dX12_read_61 : decode cX12_read 61 = .ok (.aload_n 0, 1) := by decide +kernel
theorem dX12_read_62 : decode cX12_read 62 = .ok (.iconst 0, 1) := by decide +kernel
theorem dX12_read_63 : decode cX12_read 63 = .ok (.putfield 248, 3) := by decide +kernel
theorem dX12_read_66 : decode cX12_read 66 = .ok (.aload_n 0, 1) := by decide +kernel
theorem dX12_read_67 : decode cX12_read 67 = .ok (.iconst 0, 1) := by decide +kernel
theorem dX12_read_68 : decode cX12_read 68 = .ok (.putfield 275, 3) := by decide +kernel
theorem dX12_read_71 : decode cX12_read 71 = .ok (.aload_n 0, 1) := by decide +kernel
theorem dX12_read_72 : decode cX12_read 72 = .ok (.iconst 0, 1) := by decide +kernel
theorem dX12_read_73 : decode cX12_read 73 = .ok (.putfield 245, 3) := by decide +kernel
theorem dX12_read_76 : decode cX12_read 76 = .ok (.aload_n 0, 1) := by decide +kernel
theorem dX12_read_77 : decode cX12_read 77 = .ok (.iconst 0, 1) := by decide +kernel
theorem dX12_read_78 : decode cX12_read 78 = .ok (.putfield 254, 3) := by decide +kernel
theorem dX12_read_81 : decode cX12_read 81 = .ok (.iload_n 1, 1) := by decide +kernel
theorem dX12_read_82 : decode cX12_read 82 = .ok (.iconst 1, 1) := by decide +kernel
theorem dX12_read_83 : decode cX12_read 83 = .ok (.iadd, 1) := by decide +kernel
theorem dX12_read_84 : decode cX12_read 84 = .ok (.istore_n 2, 1) := by decide +kernel
theorem dX12_read_85 : decode cX12_read 85 = .ok (.aload_n 0, 1) := by decide +kernel
theorem dX12_read_86 : decode cX12_read 86 = .ok (.iconst 2, 1) := by decide +kernel
theorem dX12_read_87 : decode cX12_read 87 = .ok (.iload_n 2, 1) := by decide +kernel
theorem dX12_read_88 : decode cX12_read 88 = .ok (.imul, 1) := by decide +kernel
theorem dX12_read_89 : decode cX12_read 89 = .ok (.iconst 1, 1) := by decide +kernel
theorem dX12_read_90 : decode cX12_read 90 = .ok (.iadd, 1) := by decide +kernel
theorem dX12_read_91 : decode cX12_read 91 = .ok (.aload_n 0, 1) := by decide +kernel
theorem dX12_read_92 : decode cX12_read 92 = .ok (.getfield 40, 3) := by decide +kernel
theorem dX12_read_95 : decode cX12_read 95 = .ok (.iload_n 2, 1) := by decide +kernel
theorem dX12_read_96 : decode cX12_read 96 = .ok (.iaload, 1) := by decide +kernel
theorem dX12_read_97 : decode cX12_read 97 = .ok (.isub, 1) := by decide +kernel
theorem dX12_read_98 : decode cX12_read 98 = .ok (.putfield 278, 3) := by decide +kernel
theorem dX12_read_101 : decode cX12_read 101 = .ok (.aload_n 0, 1) := by decide +kernel
theorem dX12_read_102 : decode cX12_read 102 = .ok (.getfield 43, 3) := by decide +kernel
theorem dX12_read_105 : decode cX12_read 105 = .ok (.aload_n 0, 1) := by decide +kernel
theorem dX12_read_106 : decode cX12_read 106 = .ok (.getfield 278, 3) := by decide +kernel
theorem dX12_read_109 : decode cX12_read 109 = .ok (.iconst 0, 1) := by decide +kernel
theorem dX12_read_110 : decode cX12_read 110 = .ok (.iastore, 1) := by decide +kernel
theorem dX12_read_111 : decode cX12_read 111 = .ok (.aload_n 0, 1) := by decide +kernel
theorem dX12_read_112 : decode cX12_read 112 = .ok (.getfield 61, 3) := by decide +kernel
theorem dX12_read_115 : decode cX12_read 115 = .ok (.aload_n 0, 1) := by decide +kernel
theorem dX12_read_116 : decode cX12_read 116 = .ok (.getfield 278, 3) := by decide +kernel
theorem dX12_read_119 : decode cX12_read 119 = .ok (.iconst 0, 1) := by decide +kernel
theorem dX12_read_120 : decode cX12_read 120 = .ok (.iastore, 1) := by decide +kernel
theorem dX12_read_121 : decode cX12_read 121 = .ok (.aload_n 0, 1) := by decide +kernel
theorem dX12_read_122 : decode cX12_read 122 = .ok (.sipush 500, 3) := by decide +kernel
theorem dX12_read_125 : decode cX12_read 125 = .ok (.aload_n 0, 1) := by decide +kernel
theorem dX12_read_126 : decode cX12_read 126 = .ok (.getfield 278, 3) := by decide +kernel
theorem dX12_read_129 : decode cX12_read 129 = .ok (.imul, 1) := by decide +kernel
theorem dX12_read_130 : decode cX12_read 130 = .ok (.putfield 281, 3) := by decide +kernel
theorem dX12_read_133 : decode cX12_read 133 = .ok (.aload_n 0, 1) := by decide +kernel
theorem dX12_read_134 : decode cX12_read 134 = .ok (.getfield 245, 3) := by decide +kernel
theorem dX12_read_137 : decode cX12_read 137 = .ok (.ifCond .ne 18, 3) := by decide +kernel
theorem dX12_read_140 : decode cX12_read 140 = .ok (.aload_n 0, 1) := by decide +kernel
theorem dX12_read_141 : decode cX12_read 141 = .ok (.iconst 0, 1) := by decide +kernel
theorem dX12_read_142 : decode cX12_read 142 = .ok (.invokevirtual 263, 3) := by decide +kernel
theorem dX12_read_145 : decode cX12_read 145 = .ok (.ifCond .ne 10, 3) := by decide +kernel
theorem dX12_read_148 : decode cX12_read 148 = .ok (.aload_n 0, 1) := by decide +kernel
theorem dX12_read_149 : decode cX12_read 149 = .ok (.invokevirtual 284, 3) := by decide +kernel
theorem dX12_read_152 : decode cX12_read 152 = .ok (.goto (-19), 3) := by decide +kernel
theorem dX12_read_155 : decode cX12_read 155 = .ok (.aload_n 0, 1) := by decide +kernel
theorem dX12_read_156 : decode cX12_read 156 = .ok (.aload_n 0, 1) := by decide +kernel
theorem dX12_read_157 : decode cX12_read 157 = .ok (.getfield 245, 3) := by decide +kernel
theorem dX12_read_160 : decode cX12_read 160 = .ok (.ifCond .le 10, 3) := by decide +kernel
theorem dX12_read_163 : decode cX12_read 163 = .ok (.aload_n 0, 1) := by decide +kernel
theorem dX12_read_164 : decode cX12_read 164 = .ok (.getfield 251, 3) := by decide +kernel
theorem dX12_read_167 : decode cX12_read 167 = .ok (.goto 4, 3) := by decide +kernel
theorem dX12_read_170 : decode cX12_read 170 = .ok (.iconst (-1), 1) := by decide +kernel
theorem dX12_read_171 : decode cX12_read 171 = .ok (.putfield 37, 3) := by decide +kernel
theorem dX12_read_174 : decode cX12_read 174 = .ok (.aload_n 0, 1) := by decide +kernel
theorem dX12_read_175 : decode cX12_read 175 = .ok (.getfield 245, 3) := by decide +kernel
theorem dX12_read_178 : decode cX12_read 178 = .ok (.ifCond .le 8, 3) := by decide +kernel
theorem dX12_read_181 : decode cX12_read 181 = .ok (.aload_n 0, 1) := by decide +kernel
theorem dX12_read_182 : decode cX12_read 182 = .ok (.getfield 245, 3) := by decide +kernel
theorem dX12_read_185 : decode cX12_read 185 = .ok (.ireturn, 1) := by decide +kernel
theorem dX12_read_186 : decode cX12_read 186 = .ok (.aload_n 0, 1) := by decide +kernel
theorem dX12_read_187 : decode cX12_read 187 = .ok (.getfield 40, 3) := by decide +kernel
theorem dX12_read_190 : decode cX12_read 190 = .ok (.iload_n 2, 1) := by decide +kernel
theorem dX12_read_191 : decode cX12_read 191 = .ok (.iconst 1, 1) := by decide +kernel
theorem dX12_read_192 : decode cX12_read 192 = .ok (.aload_n 0, 1) := by decide +kernel
theorem dX12_read_193 : decode cX12_read 193 = .ok (.getfield 40, 3) := by decide +kernel
theorem dX12_read_196 : decode cX12_read 196 = .ok (.iload_n 2, 1) := by decide +kernel
theorem dX12_read_197 : decode cX12_read 197 = .ok (.iaload, 1) := by decide +kernel
theorem dX12_read_198 : decode cX12_read 198 = .ok (.isub, 1) := by decide +kernel
theorem dX12_read_199 : decode cX12_read 199 = .ok (.iastore, 1) := by decide +kernel
theorem dX12_read_200 : decode cX12_read 200 = .ok (.iconst 0, 1) := by decide +kernel
theorem dX12_read_201 : decode cX12_read 201 = .ok (.ireturn, 1) := by decide +kernel
theorem dX12_place_0 : decode cX12_place 0 = .ok (.aload_n 0, 1) := by decide +kernel
theorem dX12_place_1 : decode cX12_place 1 = .ok (.getfield 37, 3) := by decide +kernel
theorem dX12_place_4 : decode cX12_place 4 = .ok (.ireturn, 1) := by decide +kernel
theorem dX12_tellRule_0 : decode cX12_tellRule 0 = .ok (.aload_n 0, 1) := by decide +kernel
theorem dX12_tellRule_1 : decode cX12_tellRule 1 = .ok (.bipush 20, 2) := by decide +kernel
theorem dX12_tellRule_3 : decode cX12_tellRule 3 = .ok (.invokevirtual 263, 3) := by decide +kernel
theorem dX12_tellRule_6 : decode cX12_tellRule 6 = .ok (.ifCond .ne 29, 3) := by decide +kernel
theorem dX12_tellRule_9 : decode cX12_tellRule 9 = .ok (.aload_n 0, 1) := by decide +kernel
theorem dX12_tellRule_10 : decode cX12_tellRule 10 = .ok (.bipush 21, 2) := by decide +kernel
theorem dX12_tellRule_12 : decode cX12_tellRule 12 = .ok (.invokevirtual 263, 3) := by decide +kernel
theorem dX12_tellRule_15 : decode cX12_tellRule 15 = .ok (.ifCond .ne 20, 3) := by decide +kernel
theorem dX12_tellRule_18 : decode cX12_tellRule 18 = .ok (.aload_n 0, 1) := by decide +kernel
theorem dX12_tellRule_19 : decode cX12_tellRule 19 = .ok (.bipush 22, 2) := by decide +kernel
theorem dX12_tellRule_21 : decode cX12_tellRule 21 = .ok (.invokevirtual 263, 3) := by decide +kernel
theorem dX12_tellRule_24 : decode cX12_tellRule 24 = .ok (.ifCond .ne 11, 3) := by decide +kernel
theorem dX12_tellRule_27 : decode cX12_tellRule 27 = .ok (.aload_n 0, 1) := by decide +kernel
theorem dX12_tellRule_28 : decode cX12_tellRule 28 = .ok (.iconst 1, 1) := by decide +kernel
theorem dX12_tellRule_29 : decode cX12_tellRule 29 = .ok (.invokevirtual 260, 3) := by decide +kernel
theorem dX12_tellRule_32 : decode cX12_tellRule 32 = .ok (.goto 22, 3) := by decide +kernel
theorem dX12_tellRule_35 : decode cX12_tellRule 35 = .ok (.aload_n 0, 1) := by decide +kernel
theorem dX12_tellRule_36 : decode cX12_tellRule 36 = .ok (.getfield 43, 3) := by decide +kernel
theorem dX12_tellRule_39 : decode cX12_tellRule 39 = .ok (.aload_n 0, 1) := by decide +kernel
theorem dX12_tellRule_40 : decode cX12_tellRule 40 = .ok (.getfield 278, 3) := by decide +kernel
theorem dX12_tellRule_43 : decode cX12_tellRule 43 = .ok (.iaload, 1) := by decide +kernel
theorem dX12_tellRule_44 : decode cX12_tellRule 44 = .ok (.bipush 20, 2) := by decide +kernel
theorem dX12_tellRule_46 : decode cX12_tellRule 46 = .ok (.if_icmp .ne 8, 3) := by decide +kernel
theorem dX12_tellRule_49 : decode cX12_tellRule 49 = .ok (.aload_n 0, 1) := by decide +kernel
theorem dX12_tellRule_50 : decode cX12_tellRule 50 = .ok (.iconst 2, 1) := by decide +kernel
theorem dX12_tellRule_51 : decode cX12_tellRule 51 = .ok (.invokevirtual 260, 3) := by decide +kernel
theorem dX12_tellRule_54 : decode cX12_tellRule 54 = .ok (.aload_n 0, 1) := by decide +kernel
theorem dX12_tellRule_55 : decode cX12_tellRule 55 = .ok (.getfield 245, 3) := by decide +kernel
theorem dX12_tellRule_58 : decode cX12_tellRule 58 = .ok (.ifCond .le 4, 3) := by decide +kernel
theorem dX12_tellRule_61 : decode cX12_tellRule 61 = .ok (.return_, 1) := by decide +kernel
theorem dX12_tellRule_62 : decode cX12_tellRule 62 = .ok (.bipush 20, 2) := by decide +kernel
theorem dX12_tellRule_64 : decode cX12_tellRule 64 = .ok (.aload_n 0, 1) := by decide +kernel
theorem dX12_tellRule_65 : decode cX12_tellRule 65 = .ok (.getfield 278, 3) := by decide +kernel
theorem dX12_tellRule_68 : decode cX12_tellRule 68 = .ok (.imul, 1) := by decide +kernel
theorem dX12_tellRule_69 : decode cX12_tellRule 69 = .ok (.aload_n 0, 1) := by decide +kernel
theorem dX12_tellRule_70 : decode cX12_tellRule 70 = .ok (.getfield 43, 3) := by decide +kernel
theorem dX12_tellRule_73 : decode cX12_tellRule 73 = .ok (.aload_n 0, 1) := by decide +kernel
theorem dX12_tellRule_74 : decode cX12_tellRule 74 = .ok (.getfield 278, 3) := by decide +kernel
theorem dX12_tellRule_77 : decode cX12_tellRule 77 = .ok (.iaload, 1) := by decide +kernel
theorem dX12_tellRule_78 : decode cX12_tellRule 78 = .ok (.iadd, 1) := by decide +kernel
theorem dX12_tellRule_79 : decode cX12_tellRule 79 = .ok (.istore_n 1, 1) := by decide +kernel
theorem dX12_tellRule_80 : decode cX12_tellRule 80 = .ok (.aload_n 0, 1) := by decide +kernel
theorem dX12_tellRule_81 : decode cX12_tellRule 81 = .ok (.getfield 46, 3) := by decide +kernel
theorem dX12_tellRule_84 : decode cX12_tellRule 84 = .ok (.iload_n 1, 1) := by decide +kernel
theorem dX12_tellRule_85 : decode cX12_tellRule 85 = .ok (.aload_n 0, 1) := by decide +kernel
theorem dX12_tellRule_86 : decode cX12_tellRule 86 = .ok (.getfield 20, 3) := by decide +kernel
theorem dX12_tellRule_89 : decode cX12_tellRule 89 = .ok (.aload_n 0, 1) := by decide +kernel
theorem dX12_tellRule_90 : decode cX12_tellRule 90 = .ok (.getfield 248, 3) := by decide +kernel
theorem dX12_tellRule_93 : decode cX12_tellRule 93 = .ok (.iaload, 1) := by decide +kernel
theorem dX12_tellRule_94 : decode cX12_tellRule 94 = .ok (.bipush 20, 2) := by decide +kernel
theorem dX12_tellRule_96 : decode cX12_tellRule 96 = .ok (.isub, 1) := by decide +kernel
theorem dX12_tellRule_97 : decode cX12_tellRule 97 = .ok (.iastore, 1) := by decide +kernel
theorem dX12_tellRule_98 : decode cX12_tellRule 98 = .ok (.aload_n 0, 1) := by decide +kernel
theorem dX12_tellRule_99 : decode cX12_tellRule 99 = .ok (.invokevirtual 266, 3) := by decide +kernel
theorem dX12_tellRule_102 : decode cX12_tellRule 102 = .ok (.aload_n 0, 1) := by decide +kernel
theorem dX12_tellRule_103 : decode cX12_tellRule 103 = .ok (.getfield 49, 3) := by decide +kernel
theorem dX12_tellRule_106 : decode cX12_tellRule 106 = .ok (.iload_n 1, 1) := by decide +kernel
theorem dX12_tellRule_107 : decode cX12_tellRule 107 = .ok (.aload_n 0, 1) := by decide +kernel
theorem dX12_tellRule_108 : decode cX12_tellRule 108 = .ok (.getfield 281, 3) := by decide +kernel
theorem dX12_tellRule_111 : decode cX12_tellRule 111 = .ok (.iastore, 1) := by decide +kernel
theorem dX12_tellRule_112 : decode cX12_tellRule 112 = .ok (.aload_n 0, 1) := by decide +kernel
theorem dX12_tellRule_113 : decode cX12_tellRule 113 = .ok (.invokevirtual 287, 3) := by decide +kernel
theorem dX12_tellRule_116 : decode cX12_tellRule 116 = .ok (.aload_n 0, 1) := by decide +kernel
theorem dX12_tellRule_117 : decode cX12_tellRule 117 = .ok (.getfield 52, 3) := by decide +kernel
theorem dX12_tellRule_120 : decode cX12_tellRule 120 = .ok (.iload_n 1, 1) := by decide +kernel
theorem dX12_tellRule_121 : decode cX12_tellRule 121 = .ok (.aload_n 0, 1) := by decide +kernel
theorem dX12_tellRule_122 : decode cX12_tellRule 122 = .ok (.getfield 281, 3) := by decide +kernel
theorem dX12_tellRule_125 : decode cX12_tellRule 125 = .ok (.iastore, 1) := by decide +kernel
theorem dX12_tellRule_126 : decode cX12_tellRule 126 = .ok (.aload_n 0, 1) := by decide +kernel
theorem dX12_tellRule_127 : decode cX12_tellRule 127 = .ok (.getfield 55, 3) := by decide +kernel
theorem dX12_tellRule_130 : decode cX12_tellRule 130 = .ok (.iload_n 1, 1) := by decide +kernel
theorem dX12_tellRule_131 : decode cX12_tellRule 131 = .ok (.aload_n 0, 1) := by decide +kernel
theorem dX12_tellRule_132 : decode cX12_tellRule 132 = .ok (.getfield 61, 3) := by decide +kernel
theorem dX12_tellRule_135 : decode cX12_tellRule 135 = .ok (.aload_n 0, 1) := by decide +kernel
theorem dX12_tellRule_136 : decode cX12_tellRule 136 = .ok (.getfield 278, 3) := by decide +kernel
theorem dX12_tellRule_139 : decode cX12_tellRule 139 = .ok (.iaload, 1) := by decide +kernel
theorem dX12_tellRule_140 : decode cX12_tellRule 140 = .ok (.iastore, 1) := by decide +kernel
theorem dX12_tellRule_141 : decode cX12_tellRule 141 = .ok (.aload_n 0, 1) := by decide +kernel
theorem dX12_tellRule_142 : decode cX12_tellRule 142 = .ok (.bipush 23, 2) := by decide +kernel
theorem dX12_tellRule_144 : decode cX12_tellRule 144 = .ok (.invokevirtual 263, 3) := by decide +kernel
theorem dX12_tellRule_147 : decode cX12_tellRule 147 = .ok (.istore_n 2, 1) := by decide +kernel
theorem dX12_tellRule_148 : decode cX12_tellRule 148 = .ok (.iload_n 2, 1) := by decide +kernel
theorem dX12_tellRule_149 : decode cX12_tellRule 149 = .ok (.ifCond .eq 7, 3) := by decide +kernel
theorem dX12_tellRule_152 : decode cX12_tellRule 152 = .ok (.aload_n 0, 1) := by decide +kernel
theorem dX12_tellRule_153 : decode cX12_tellRule 153 = .ok (.invokevirtual 266, 3) := by decide +kernel
theorem dX12_tellRule_156 : decode cX12_tellRule 156 = .ok (.iconst 1, 1) := by decide +kernel
theorem dX12_tellRule_157 : decode cX12_tellRule 157 = .ok (.istore_n 3, 1) := by decide +kernel
theorem dX12_tellRule_158 : decode cX12_tellRule 158 = .ok (.iload_n 2, 1) := by decide +kernel
theorem dX12_tellRule_159 : decode cX12_tellRule 159 = .ok (.ifCond .eq 52, 3) := by decide +kernel
theorem dX12_tellRule_162 : decode cX12_tellRule 162 = .ok (.aload_n 0, 1) := by decide +kernel
theorem dX12_tellRule_163 : decode cX12_tellRule 163 = .ok (.getfield 245, 3) := by decide +kernel
theorem dX12_tellRule_166 : decode cX12_tellRule 166 = .ok (.ifCond .ne 45, 3) := by decide +kernel
theorem dX12_tellRule_169 : decode cX12_tellRule 169 = .ok (.aload_n 0, 1) := by decide +kernel
theorem dX12_tellRule_170 : decode cX12_tellRule 170 = .ok (.iload_n 3, 1) := by decide +kernel
theorem dX12_tellRule_171 : decode cX12_tellRule 171 = .ok (.invokevirtual 290, 3) := by decide +kernel
theorem dX12_tellRule_174 : decode cX12_tellRule 174 = .ok (.aload_n 0, 1) := by decide +kernel
theorem dX12_tellRule_175 : decode cX12_tellRule 175 = .ok (.bipush 24, 2) := by decide +kernel
theorem dX12_tellRule_177 : decode cX12_tellRule 177 = .ok (.invokevirtual 263, 3) := by decide +kernel
theorem dX12_tellRule_180 : decode cX12_tellRule 180 = .ok (.istore_n 3, 1) := by decide +kernel
theorem dX12_tellRule_181 : decode cX12_tellRule 181 = .ok (.iload_n 3, 1) := by decide +kernel
theorem dX12_tellRule_182 : decode cX12_tellRule 182 = .ok (.ifCond .ne 12, 3) := by decide +kernel
theorem dX12_tellRule_185 : decode cX12_tellRule 185 = .ok (.aload_n 0, 1) := by decide +kernel
theorem dX12_tellRule_186 : decode cX12_tellRule 186 = .ok (.bipush 25, 2) := by decide +kernel
theorem dX12_tellRule_188 : decode cX12_tellRule 188 = .ok (.invokevirtual 263, 3) := by decide +kernel
theorem dX12_tellRule_191 : decode cX12_tellRule 191 = .ok (.ifCond .eq 7, 3) := by decide +kernel
theorem dX12_tellRule_194 : decode cX12_tellRule 194 = .ok (.iconst 1, 1) := by decide +kernel
theorem dX12_tellRule_195 : decode cX12_tellRule 195 = .ok (.goto 4, 3) := by decide +kernel
theorem dX12_tellRule_198 : decode cX12_tellRule 198 = .ok (.iconst 0, 1) := by decide +kernel
theorem dX12_tellRule_199 : decode cX12_tellRule 199 = .ok (.istore_n 2, 1) := by decide +kernel
theorem dX12_tellRule_200 : decode cX12_tellRule 200 = .ok (.iload_n 2, 1) := by decide +kernel
theorem dX12_tellRule_201 : decode cX12_tellRule 201 = .ok (.ifCond .eq (-43), 3) := by decide +kernel
theorem dX12_tellRule_204 : decode cX12_tellRule 204 = .ok (.aload_n 0, 1) := by decide +kernel
theorem dX12_tellRule_205 : decode cX12_tellRule 205 = .ok (.invokevirtual 266, 3) := by decide +kernel
theorem dX12_tellRule_208 : decode cX12_tellRule 208 = .ok (.goto (-50), 3) := by decide +kernel
theorem dX12_tellRule_211 : decode cX12_tellRule 211 = .ok (.aload_n 0, 1) := by decide +kernel
theorem dX12_tellRule_212 : decode cX12_tellRule 212 = .ok (.iconst 4, 1) := by decide +kernel
theorem dX12_tellRule_213 : decode cX12_tellRule 213 = .ok (.invokevirtual 294, 3) := by decide +kernel
theorem dX12_tellRule_216 : decode cX12_tellRule 216 = .ok (.aload_n 0, 1) := by decide +kernel
theorem dX12_tellRule_217 : decode cX12_tellRule 217 = .ok (.getfield 245, 3) := by decide +kernel
theorem dX12_tellRule_220 : decode cX12_tellRule 220 = .ok (.ifCond .le 4, 3) := by decide +kernel
theorem dX12_tellRule_223 : decode cX12_tellRule 223 = .ok (.return_, 1) := by decide +kernel
theorem dX12_tellRule_224 : decode cX12_tellRule 224 = .ok (.aload_n 0, 1) := by decide +kernel
theorem dX12_tellRule_225 : decode cX12_tellRule 225 = .ok (.getfield 58, 3) := by decide +kernel
theorem dX12_tellRule_228 : decode cX12_tellRule 228 = .ok (.iload_n 1, 1) := by decide +kernel
theorem dX12_tellRule_229 : decode cX12_tellRule 229 = .ok (.aload_n 0, 1) := by decide +kernel
theorem dX12_tellRule_230 : decode cX12_tellRule 230 = .ok (.getfield 61, 3) := by decide +kernel
theorem dX12_tellRule_233 : decode cX12_tellRule 233 = .ok (.aload_n 0, 1) := by decide +kernel
theorem dX12_tellRule_234 : decode cX12_tellRule 234 = .ok (.getfield 278, 3) := by decide +kernel
theorem dX12_tellRule_237 : decode cX12_tellRule 237 = .ok (.iaload, 1) := by decide +kernel
theorem dX12_tellRule_238 : decode cX12_tellRule 238 = .ok (.iastore, 1) := by decide +kernel
theorem dX12_tellRule_239 : decode cX12_tellRule 239 = .ok (.aload_n 0, 1) := by decide +kernel
theorem dX12_tellRule_240 : decode cX12_tellRule 240 = .ok (.getfield 43, 3) := by decide +kernel
theorem dX12_tellRule_243 : decode cX12_tellRule 243 = .ok (.aload_n 0, 1) := by decide +kernel
theorem dX12_tellRule_244 : decode cX12_tellRule 244 = .ok (.getfield 278, 3) := by decide +kernel
theorem dX12_tellRule_247 : decode cX12_tellRule 247 = .ok (.dup2, 1) := by decide +kernel
theorem dX12_tellRule_248 : decode cX12_tellRule 248 = .ok (.iaload, 1) := by decide +kernel
theorem dX12_tellRule_249 : decode cX12_tellRule 249 = .ok (.iconst 1, 1) := by decide +kernel
theorem dX12_tellRule_250 : decode cX12_tellRule 250 = .ok (.iadd, 1) := by decide +kernel
theorem dX12_tellRule_251 : decode cX12_tellRule 251 = .ok (.iastore, 1) := by decide +kernel
theorem dX12_tellRule_252 : decode cX12_tellRule 252 = .ok (.return_, 1) := by decide +kernel
theorem dX12_relation_0 : decode cX12_relation 0 = .ok (.aload_n 0, 1) := by decide +kernel
theorem dX12_relation_1 : decode cX12_relation 1 = .ok (.getfield 281, 3) := by decide +kernel
theorem dX12_relation_4 : decode cX12_relation 4 = .ok (.istore_n 2, 1) := by decide +kernel
theorem dX12_relation_5 : decode cX12_relation 5 = .ok (.aload_n 0, 1) := by decide +kernel
theorem dX12_relation_6 : decode cX12_relation 6 = .ok (.invokevirtual 287, 3) := by decide +kernel
theorem dX12_relation_9 : decode cX12_relation 9 = .ok (.aload_n 0, 1) := by decide +kernel
theorem dX12_relation_10 : decode cX12_relation 10 = .ok (.getfield 245, 3) := by decide +kernel
theorem dX12_relation_13 : decode cX12_relation 13 = .ok (.ifCond .le 7, 3) := by decide +kernel
theorem dX12_relation_16 : decode cX12_relation 16 = .ok (.iconst 0, 1) := by decide +kernel
theorem dX12_relation_17 : decode cX12_relation 17 = .ok (.goto 15, 3) := by decide +kernel
theorem dX12_relation_20 : decode cX12_relation 20 = .ok (.aload_n 0, 1) := by decide +kernel
theorem dX12_relation_21 : decode cX12_relation 21 = .ok (.getfield 20, 3) := by decide +kernel
theorem dX12_relation_24 : decode cX12_relation 24 = .ok (.aload_n 0, 1) := by decide +kernel
theorem dX12_relation_25 : decode cX12_relation 25 = .ok (.getfield 248, 3) := by decide +kernel
theorem dX12_relation_28 : decode cX12_relation 28 = .ok (.iaload, 1) := by decide +kernel
theorem dX12_relation_29 : decode cX12_relation 29 = .ok (.bipush 11, 2) := by decide +kernel
theorem dX12_relation_31 : decode cX12_relation 31 = .ok (.isub, 1) := by decide +kernel
theorem dX12_relation_32 : decode cX12_relation 32 = .ok (.istore_n 3, 1) := by decide +kernel
theorem dX12_relation_33 : decode cX12_relation 33 = .ok (.aload_n 0, 1) := by decide +kernel
theorem dX12_relation_34 : decode cX12_relation 34 = .ok (.getfield 245, 3) := by decide +kernel
theorem dX12_relation_37 : decode cX12_relation 37 = .ok (.ifCond .ne 17, 3) := by decide +kernel
theorem dX12_relation_40 : decode cX12_relation 40 = .ok (.iload_n 3, 1) := by decide +kernel
theorem dX12_relation_41 : decode cX12_relation 41 = .ok (.ifCond .lt 8, 3) := by decide +kernel
theorem dX12_relation_44 : decode cX12_relation 44 = .ok (.iload_n 3, 1) := by decide +kernel
theorem dX12_relation_45 : decode cX12_relation 45 = .ok (.iconst 3, 1) := by decide +kernel
theorem dX12_relation_46 : decode cX12_relation 46 = .ok (.if_icmp .le 8, 3) := by decide +kernel
theorem dX12_relation_49 : decode cX12_relation 49 = .ok (.aload_n 0, 1) := by decide +kernel
theorem dX12_relation_50 : decode cX12_relation 50 = .ok (.iconst 1, 1) := by decide +kernel
theorem dX12_relation_51 : decode cX12_relation 51 = .ok (.invokevirtual 260, 3) := by decide +kernel
theorem dX12_relation_54 : decode cX12_relation 54 = .ok (.aload_n 0, 1) := by decide +kernel
theorem dX12_relation_55 : decode cX12_relation 55 = .ok (.invokevirtual 266, 3) := by decide +kernel
theorem dX12_relation_58 : decode cX12_relation 58 = .ok (.aload_n 0, 1) := by decide +kernel
theorem dX12_relation_59 : decode cX12_relation 59 = .ok (.getfield 281, 3) := by decide +kernel
theorem dX12_relation_62 : decode cX12_relation 62 = .ok (.istore 4, 2) := by decide +kernel
theorem dX12_relation_64 : decode cX12_relation 64 = .ok (.aload_n 0, 1) := by decide +kernel
theorem dX12_relation_65 : decode cX12_relation 65 = .ok (.invokevirtual 287, 3) := by decide +kernel
theorem dX12_relation_68 : decode cX12_relation 68 = .ok (.aload_n 0, 1) := by decide +kernel
theorem dX12_relation_69 : decode cX12_relation 69 = .ok (.getfield 245, 3) := by decide +kernel
theorem dX12_relation_72 : decode cX12_relation 72 = .ok (.ifCond .le 4, 3) := by decide +kernel
theorem dX12_relation_75 : decode cX12_relation 75 = .ok (.return_, 1) := by decide +kernel
theorem dX12_relation_76 : decode cX12_relation 76 = .ok (.sipush 200, 3) := by decide +kernel
theorem dX12_relation_79 : decode cX12_relation 79 = .ok (.aload_n 0, 1) := by decide +kernel
theorem dX12_relation_80 : decode cX12_relation 80 = .ok (.getfield 278, 3) := by decide +kernel
theorem dX12_relation_83 : decode cX12_relation 83 = .ok (.imul, 1) := by decide +kernel
theorem dX12_relation_84 : decode cX12_relation 84 = .ok (.aload_n 0, 1) := by decide +kernel
theorem dX12_relation_85 : decode cX12_relation 85 = .ok (.getfield 61, 3) := by decide +kernel
theorem dX12_relation_88 : decode cX12_relation 88 = .ok (.aload_n 0, 1) := by decide +kernel
theorem dX12_relation_89 : decode cX12_relation 89 = .ok (.getfield 278, 3) := by decide +kernel
theorem dX12_relation_92 : decode cX12_relation 92 = .ok (.iaload, 1) := by decide +kernel
theorem dX12_relation_93 : decode cX12_relation 93 = .ok (.iadd, 1) := by decide +kernel
theorem dX12_relation_94 : decode cX12_relation 94 = .ok (.istore 5, 2) := by decide +kernel
theorem dX12_relation_96 : decode cX12_relation 96 = .ok (.aload_n 0, 1) := by decide +kernel
theorem dX12_relation_97 : decode cX12_relation 97 = .ok (.getfield 64, 3) := by decide +kernel
theorem dX12_relation_100 : decode cX12_relation 100 = .ok (.iload 5, 2) := by decide +kernel
theorem dX12_relation_102 : decode cX12_relation 102 = .ok (.iload_n 3, 1) := by decide +kernel
theorem dX12_relation_103 : decode cX12_relation 103 = .ok (.iastore, 1) := by decide +kernel
theorem dX12_relation_104 : decode cX12_relation 104 = .ok (.aload_n 0, 1) := by decide +kernel
theorem dX12_relation_105 : decode cX12_relation 105 = .ok (.getfield 67, 3) := by decide +kernel
theorem dX12_relation_108 : decode cX12_relation 108 = .ok (.iload 5, 2) := by decide +kernel
theorem dX12_relation_110 : decode cX12_relation 110 = .ok (.iload_n 2, 1) := by decide +kernel
theorem dX12_relation_111 : decode cX12_relation 111 = .ok (.iastore, 1) := by decide +kernel
theorem dX12_relation_112 : decode cX12_relation 112 = .ok (.aload_n 0, 1) := by decide +kernel
theorem dX12_relation_113 : decode cX12_relation 113 = .ok (.getfield 70, 3) := by decide +kernel
theorem dX12_relation_116 : decode cX12_relation 116 = .ok (.iload 5, 2) := by decide +kernel
theorem dX12_relation_118 : decode cX12_relation 118 = .ok (.iload 4, 2) := by decide +kernel
theorem dX12_relation_120 : decode cX12_relation 120 = .ok (.iastore, 1) := by decide +kernel
theorem dX12_relation_121 : decode cX12_relation 121 = .ok (.aload_n 0, 1) := by decide +kernel
theorem dX12_relation_122 : decode cX12_relation 122 = .ok (.getfield 73, 3) := by decide +kernel
theorem dX12_relation_125 : decode cX12_relation 125 = .ok (.iload 5, 2) := by decide +kernel
theorem dX12_relation_127 : decode cX12_relation 127 = .ok (.aload_n 0, 1) := by decide +kernel
theorem dX12_relation_128 : decode cX12_relation 128 = .ok (.getfield 281, 3) := by decide +kernel
theorem dX12_relation_131 : decode cX12_relation 131 = .ok (.iastore, 1) := by decide +kernel
theorem dX12_relation_132 : decode cX12_relation 132 = .ok (.aload_n 0, 1) := by decide +kernel
theorem dX12_relation_133 : decode cX12_relation 133 = .ok (.getfield 76, 3) := by decide +kernel
theorem dX12_relation_136 : decode cX12_relation 136 = .ok (.iload 5, 2) := by decide +kernel
theorem dX12_relation_138 : decode cX12_relation 138 = .ok (.iload_n 1, 1) := by decide +kernel
theorem dX12_relation_139 : decode cX12_relation 139 = .ok (.bastore, 1) := by decide +kernel
theorem dX12_relation_140 : decode cX12_relation 140 = .ok (.aload_n 0, 1) := by decide +kernel
theorem dX12_relation_141 : decode cX12_relation 141 = .ok (.getfield 61, 3) := by decide +kernel
theorem dX12_relation_144 : decode cX12_relation 144 = .ok (.aload_n 0, 1) := by decide +kernel
theorem dX12_relation_145 : decode cX12_relation 145 = .ok (.getfield 278, 3) := by decide +kernel
theorem dX12_relation_148 : decode cX12_relation 148 = .ok (.dup2, 1) := by decide +kernel
theorem dX12_relation_149 : decode cX12_relation 149 = .ok (.iaload, 1) := by decide +kernel
theorem dX12_relation_150 : decode cX12_relation 150 = .ok (.iconst 1, 1) := by decide +kernel
theorem dX12_relation_151 : decode cX12_relation 151 = .ok (.iadd, 1) := by decide +kernel
theorem dX12_relation_152 : decode cX12_relation 152 = .ok (.iastore, 1) := by decide +kernel
theorem dX12_relation_153 : decode cX12_relation 153 = .ok (.return_, 1) := by decide +kernel
theorem dX12_emit_0 : decode cX12_emit 0 = .ok (.aload_n 0, 1) := by decide +kernel
theorem dX12_emit_1 : decode cX12_emit 1 = .ok (.getfield 80, 3) := by decide +kernel
theorem dX12_emit_4 : decode cX12_emit 4 = .ok (.aload_n 0, 1) := by decide +kernel
theorem dX12_emit_5 : decode cX12_emit 5 = .ok (.getfield 281, 3) := by decide +kernel
theorem dX12_emit_8 : decode cX12_emit 8 = .ok (.iload_n 1, 1) := by decide +kernel
theorem dX12_emit_9 : decode cX12_emit 9 = .ok (.iastore, 1) := by decide +kernel
theorem dX12_emit_10 : decode cX12_emit 10 = .ok (.aload_n 0, 1) := by decide +kernel
theorem dX12_emit_11 : decode cX12_emit 11 = .ok (.getfield 83, 3) := by decide +kernel
theorem dX12_emit_14 : decode cX12_emit 14 = .ok (.aload_n 0, 1) := by decide +kernel
theorem dX12_emit_15 : decode cX12_emit 15 = .ok (.getfield 281, 3) := by decide +kernel
theorem dX12_emit_18 : decode cX12_emit 18 = .ok (.iload_n 2, 1) := by decide +kernel
theorem dX12_emit_19 : decode cX12_emit 19 = .ok (.iastore, 1) := by decide +kernel
theorem dX12_emit_20 : decode cX12_emit 20 = .ok (.aload_n 0, 1) := by decide +kernel
theorem dX12_emit_21 : decode cX12_emit 21 = .ok (.dup, 1) := by decide +kernel
theorem dX12_emit_22 : decode cX12_emit 22 = .ok (.getfield 281, 3) := by decide +kernel
theorem dX12_emit_25 : decode cX12_emit 25 = .ok (.iconst 1, 1) := by decide +kernel
theorem dX12_emit_26 : decode cX12_emit 26 = .ok (.iadd, 1) := by decide +kernel
theorem dX12_emit_27 : decode cX12_emit 27 = .ok (.putfield 281, 3) := by decide +kernel
theorem dX12_emit_30 : decode cX12_emit 30 = .ok (.return_, 1) := by decide +kernel
theorem dX12_comesOut_0 : decode cX12_comesOut 0 = .ok (.aload_n 0, 1) := by decide +kernel
theorem dX12_comesOut_1 : decode cX12_comesOut 1 = .ok (.getfield 297, 3) := by decide +kernel
theorem dX12_comesOut_4 : decode cX12_comesOut 4 = .ok (.ifCond .le 88, 3) := by decide +kernel
theorem dX12_comesOut_7 : decode cX12_comesOut 7 = .ok (.aload_n 0, 1) := by decide +kernel
theorem dX12_comesOut_8 : decode cX12_comesOut 8 = .ok (.getfield 86, 3) := by decide +kernel
theorem dX12_comesOut_11 : decode cX12_comesOut 11 = .ok (.aload_n 0, 1) := by decide +kernel
theorem dX12_comesOut_12 : decode cX12_comesOut 12 = .ok (.getfield 297, 3) := by decide +kernel
theorem dX12_comesOut_15 : decode cX12_comesOut 15 = .ok (.iconst 1, 1) := by decide +kernel
theorem dX12_comesOut_16 : decode cX12_comesOut 16 = .ok (.isub, 1) := by decide +kernel
theorem dX12_comesOut_17 : decode cX12_comesOut 17 = .ok (.iaload, 1) := by decide +kernel
theorem dX12_comesOut_18 : decode cX12_comesOut 18 = .ok (.bipush 6, 2) := by decide +kernel
theorem dX12_comesOut_20 : decode cX12_comesOut 20 = .ok (.if_icmp .eq 72, 3) := by decide +kernel
theorem dX12_comesOut_23 : decode cX12_comesOut 23 = .ok (.iload_n 1, 1) := by decide +kernel
theorem dX12_comesOut_24 : decode cX12_comesOut 24 = .ok (.ifCond .eq 19, 3) := by decide +kernel
theorem dX12_comesOut_27 : decode cX12_comesOut 27 = .ok (.aload_n 0, 1) := by decide +kernel
theorem dX12_comesOut_28 : decode cX12_comesOut 28 = .ok (.getfield 86, 3) := by decide +kernel
theorem dX12_comesOut_31 : decode cX12_comesOut 31 = .ok (.aload_n 0, 1) := by decide +kernel
theorem dX12_comesOut_32 : decode cX12_comesOut 32 = .ok (.getfield 297, 3) := by decide +kernel
theorem dX12_comesOut_35 : decode cX12_comesOut 35 = .ok (.iconst 1, 1) := by decide +kernel
theorem dX12_comesOut_36 : decode cX12_comesOut 36 = .ok (.isub, 1) := by decide +kernel
theorem dX12_comesOut_37 : decode cX12_comesOut 37 = .ok (.iaload, 1) := by decide +kernel
theorem dX12_comesOut_38 : decode cX12_comesOut 38 = .ok (.bipush 10, 2) := by decide +kernel
theorem dX12_comesOut_40 : decode cX12_comesOut 40 = .ok (.if_icmp .ne 52, 3) := by decide +kernel
theorem dX12_comesOut_43 : decode cX12_comesOut 43 = .ok (.aload_n 0, 1) := by decide +kernel
theorem dX12_comesOut_44 : decode cX12_comesOut 44 = .ok (.dup, 1) := by decide +kernel
theorem dX12_comesOut_45 : decode cX12_comesOut 45 = .ok (.getfield 297, 3) := by decide +kernel
theorem dX12_comesOut_48 : decode cX12_comesOut 48 = .ok (.iconst 1, 1) := by decide +kernel
theorem dX12_comesOut_49 : decode cX12_comesOut 49 = .ok (.isub, 1) := by decide +kernel
theorem dX12_comesOut_50 : decode cX12_comesOut 50 = .ok (.putfield 297, 3) := by decide +kernel
theorem dX12_comesOut_53 : decode cX12_comesOut 53 = .ok (.aload_n 0, 1) := by decide +kernel
theorem dX12_comesOut_54 : decode cX12_comesOut 54 = .ok (.getfield 86, 3) := by decide +kernel
theorem dX12_comesOut_57 : decode cX12_comesOut 57 = .ok (.aload_n 0, 1) := by decide +kernel
theorem dX12_comesOut_58 : decode cX12_comesOut 58 = .ok (.getfield 297, 3) := by decide +kernel
theorem dX12_comesOut_61 : decode cX12_comesOut 61 = .ok (.iaload, 1) := by decide +kernel
theorem dX12_comesOut_62 : decode cX12_comesOut 62 = .ok (.istore_n 2, 1) := by decide +kernel
theorem dX12_comesOut_63 : decode cX12_comesOut 63 = .ok (.aload_n 0, 1) := by decide +kernel
theorem dX12_comesOut_64 : decode cX12_comesOut 64 = .ok (.iload_n 2, 1) := by decide +kernel
theorem dX12_comesOut_65 : decode cX12_comesOut 65 = .ok (.bipush 8, 2) := by decide +kernel
theorem dX12_comesOut_67 : decode cX12_comesOut 67 = .ok (.if_icmp .ne 7, 3) := by decide +kernel
theorem dX12_comesOut_70 : decode cX12_comesOut 70 = .ok (.iconst 2, 1) := by decide +kernel
theorem dX12_comesOut_71 : decode cX12_comesOut 71 = .ok (.goto 14, 3) := by decide +kernel
theorem dX12_comesOut_74 : decode cX12_comesOut 74 = .ok (.iload_n 2, 1) := by decide +kernel
theorem dX12_comesOut_75 : decode cX12_comesOut 75 = .ok (.bipush 9, 2) := by decide +kernel
theorem dX12_comesOut_77 : decode cX12_comesOut 77 = .ok (.if_icmp .ne 7, 3) := by decide +kernel
theorem dX12_comesOut_80 : decode cX12_comesOut 80 = .ok (.iconst 3, 1) := by decide +kernel
theorem dX12_comesOut_81 : decode cX12_comesOut 81 = .ok (.goto 4, 3) := by decide +kernel
theorem dX12_comesOut_84 : decode cX12_comesOut 84 = .ok (.iconst 4, 1) := by decide +kernel
theorem dX12_comesOut_85 : decode cX12_comesOut 85 = .ok (.iconst 0, 1) := by decide +kernel
theorem dX12_comesOut_86 : decode cX12_comesOut 86 = .ok (.invokevirtual 300, 3) := by decide +kernel
theorem dX12_comesOut_89 : decode cX12_comesOut 89 = .ok (.goto (-89), 3) := by decide +kernel
theorem dX12_comesOut_92 : decode cX12_comesOut 92 = .ok (.return_, 1) := by decide +kernel
theorem dX12_expression_0 : decode cX12_expression 0 = .ok (.aload_n 0, 1) := by decide +kernel
theorem dX12_expression_1 : decode cX12_expression 1 = .ok (.iconst 0, 1) := by decide +kernel
theorem dX12_expression_2 : decode cX12_expression 2 = .ok (.putfield 297, 3) := by decide +kernel
theorem dX12_expression_5 : decode cX12_expression 5 = .ok (.aload_n 0, 1) := by decide +kernel
theorem dX12_expression_6 : decode cX12_expression 6 = .ok (.getfield 275, 3) := by decide +kernel
theorem dX12_expression_9 : decode cX12_expression 9 = .ok (.istore_n 1, 1) := by decide +kernel
theorem dX12_expression_10 : decode cX12_expression 10 = .ok (.iconst 1, 1) := by decide +kernel
theorem dX12_expression_11 : decode cX12_expression 11 = .ok (.istore_n 2, 1) := by decide +kernel
theorem dX12_expression_12 : decode cX12_expression 12 = .ok (.iload_n 2, 1) := by decide +kernel
theorem dX12_expression_13 : decode cX12_expression 13 = .ok (.ifCond .eq 347, 3) := by decide +kernel
theorem dX12_expression_16 : decode cX12_expression 16 = .ok (.aload_n 0, 1) := by decide +kernel
theorem dX12_expression_17 : decode cX12_expression 17 = .ok (.getfield 245, 3) := by decide +kernel
theorem dX12_expression_20 : decode cX12_expression 20 = .ok (.ifCond .ne 340, 3) := by decide +kernel
theorem dX12_expression_23 : decode cX12_expression 23 = .ok (.aload_n 0, 1) := by decide +kernel
theorem dX12_expression_24 : decode cX12_expression 24 = .ok (.bipush 6, 2) := by decide +kernel
theorem dX12_expression_26 : decode cX12_expression 26 = .ok (.invokevirtual 263, 3) := by decide +kernel
theorem dX12_expression_29 : decode cX12_expression 29 = .ok (.ifCond .eq 63, 3) := by decide +kernel
theorem dX12_expression_32 : decode cX12_expression 32 = .ok (.aload_n 0, 1) := by decide +kernel
theorem dX12_expression_33 : decode cX12_expression 33 = .ok (.getfield 275, 3) := by decide +kernel
theorem dX12_expression_36 : decode cX12_expression 36 = .ok (.bipush 6, 2) := by decide +kernel
theorem dX12_expression_38 : decode cX12_expression 38 = .ok (.if_icmp .ne 8, 3) := by decide +kernel
theorem dX12_expression_41 : decode cX12_expression 41 = .ok (.aload_n 0, 1) := by decide +kernel
theorem dX12_expression_42 : decode cX12_expression 42 = .ok (.iconst 2, 1) := by decide +kernel
theorem dX12_expression_43 : decode cX12_expression 43 = .ok (.invokevirtual 260, 3) := by decide +kernel
theorem dX12_expression_46 : decode cX12_expression 46 = .ok (.aload_n 0, 1) := by decide +kernel
theorem dX12_expression_47 : decode cX12_expression 47 = .ok (.getfield 245, 3) := by decide +kernel
theorem dX12_expression_50 : decode cX12_expression 50 = .ok (.ifCond .le 4, 3) := by decide +kernel
theorem dX12_expression_53 : decode cX12_expression 53 = .ok (.return_, 1) := by decide +kernel
theorem dX12_expression_54 : decode cX12_expression 54 = .ok (.aload_n 0, 1) := by decide +kernel
theorem dX12_expression_55 : decode cX12_expression 55 = .ok (.dup, 1) := by decide +kernel
theorem dX12_expression_56 : decode cX12_expression 56 = .ok (.getfield 275, 3) := by decide +kernel
theorem dX12_expression_59 : decode cX12_expression 59 = .ok (.iconst 1, 1) := by decide +kernel
theorem dX12_expression_60 : decode cX12_expression 60 = .ok (.iadd, 1) := by decide +kernel
theorem dX12_expression_61 : decode cX12_expression 61 = .ok (.putfield 275, 3) := by decide +kernel
theorem dX12_expression_64 : decode cX12_expression 64 = .ok (.aload_n 0, 1) := by decide +kernel
theorem dX12_expression_65 : decode cX12_expression 65 = .ok (.invokevirtual 266, 3) := by decide +kernel
theorem dX12_expression_68 : decode cX12_expression 68 = .ok (.aload_n 0, 1) := by decide +kernel
theorem dX12_expression_69 : decode cX12_expression 69 = .ok (.getfield 86, 3) := by decide +kernel
theorem dX12_expression_72 : decode cX12_expression 72 = .ok (.aload_n 0, 1) := by decide +kernel
theorem dX12_expression_73 : decode cX12_expression 73 = .ok (.getfield 297, 3) := by decide +kernel
theorem dX12_expression_76 : decode cX12_expression 76 = .ok (.bipush 6, 2) := by decide +kernel
theorem dX12_expression_78 : decode cX12_expression 78 = .ok (.iastore, 1) := by decide +kernel
theorem dX12_expression_79 : decode cX12_expression 79 = .ok (.aload_n 0, 1) := by decide +kernel
theorem dX12_expression_80 : decode cX12_expression 80 = .ok (.dup, 1) := by decide +kernel
theorem dX12_expression_81 : decode cX12_expression 81 = .ok (.getfield 297, 3) := by decide +kernel
theorem dX12_expression_84 : decode cX12_expression 84 = .ok (.iconst 1, 1) := by decide +kernel
theorem dX12_expression_85 : decode cX12_expression 85 = .ok (.iadd, 1) := by decide +kernel
theorem dX12_expression_86 : decode cX12_expression 86 = .ok (.putfield 297, 3) := by decide +kernel
theorem dX12_expression_89 : decode cX12_expression 89 = .ok (.goto (-77), 3) := by decide +kernel
theorem dX12_expression_92 : decode cX12_expression 92 = .ok (.aload_n 0, 1) := by decide +kernel
theorem dX12_expression_93 : decode cX12_expression 93 = .ok (.getfield 245, 3) := by decide +kernel
theorem dX12_expression_96 : decode cX12_expression 96 = .ok (.ifCond .ne 35, 3) := by decide +kernel
theorem dX12_expression_99 : decode cX12_expression 99 = .ok (.aload_n 0, 1) := by decide +kernel
theorem dX12_expression_100 : decode cX12_expression 100 = .ok (.getfield 20, 3) := by decide +kernel
theorem dX12_expression_103 : decode cX12_expression 103 = .ok (.aload_n 0, 1) := by decide +kernel
theorem dX12_expression_104 : decode cX12_expression 104 = .ok (.getfield 248, 3) := by decide +kernel
theorem dX12_expression_107 : decode cX12_expression 107 = .ok (.iaload, 1) := by decide +kernel
theorem dX12_expression_108 : decode cX12_expression 108 = .ok (.bipush 26, 2) := by decide +kernel
theorem dX12_expression_110 : decode cX12_expression 110 = .ok (.if_icmp .lt 21, 3) := by decide +kernel
theorem dX12_expression_113 : decode cX12_expression 113 = .ok (.aload_n 0, 1) := by decide +kernel
theorem dX12_expression_114 : decode cX12_expression 114 = .ok (.getfield 20, 3) := by decide +kernel
theorem dX12_expression_117 : decode cX12_expression 117 = .ok (.aload_n 0, 1) := by decide +kernel
theorem dX12_expression_118 : decode cX12_expression 118 = .ok (.getfield 248, 3) := by decide +kernel
theorem dX12_expression_121 : decode cX12_expression 121 = .ok (.iaload, 1) := by decide +kernel
theorem dX12_expression_122 : decode cX12_expression 122 = .ok (.bipush 35, 2) := by decide +kernel
theorem dX12_expression_124 : decode cX12_expression 124 = .ok (.if_icmp .gt 7, 3) := by decide +kernel
theorem dX12_expression_127 : decode cX12_expression 127 = .ok (.iconst 1, 1) := by decide +kernel
theorem dX12_expression_128 : decode cX12_expression 128 = .ok (.goto 4, 3) := by decide +kernel
theorem dX12_expression_131 : decode cX12_expression 131 = .ok (.iconst 0, 1) := by decide +kernel
theorem dX12_expression_132 : decode cX12_expression 132 = .ok (.istore_n 3, 1) := by decide +kernel
theorem dX12_expression_133 : decode cX12_expression 133 = .ok (.aload_n 0, 1) := by decide +kernel
theorem dX12_expression_134 : decode cX12_expression 134 = .ok (.iconst 2, 1) := by decide +kernel
theorem dX12_expression_135 : decode cX12_expression 135 = .ok (.invokevirtual 263, 3) := by decide +kernel
theorem dX12_expression_138 : decode cX12_expression 138 = .ok (.ifCond .ne 12, 3) := by decide +kernel
theorem dX12_expression_141 : decode cX12_expression 141 = .ok (.iload_n 3, 1) := by decide +kernel
theorem dX12_expression_142 : decode cX12_expression 142 = .ok (.ifCond .ne 8, 3) := by decide +kernel
theorem dX12_expression_145 : decode cX12_expression 145 = .ok (.aload_n 0, 1) := by decide +kernel
theorem dX12_expression_146 : decode cX12_expression 146 = .ok (.iconst 1, 1) := by decide +kernel
theorem dX12_expression_147 : decode cX12_expression 147 = .ok (.invokevirtual 260, 3) := by decide +kernel
theorem dX12_expression_150 : decode cX12_expression 150 = .ok (.aload_n 0, 1) := by decide +kernel
theorem dX12_expression_151 : decode cX12_expression 151 = .ok (.getfield 245, 3) := by decide +kernel
theorem dX12_expression_154 : decode cX12_expression 154 = .ok (.ifCond .le 4, 3) := by decide +kernel
theorem dX12_expression_157 : decode cX12_expression 157 = .ok (.return_, 1) := by decide +kernel
theorem dX12_expression_158 : decode cX12_expression 158 = .ok (.iload_n 3, 1) := by decide +kernel
theorem dX12_expression_159 : decode cX12_expression 159 = .ok (.ifCond .eq 23, 3) := by decide +kernel
theorem dX12_expression_162 : decode cX12_expression 162 = .ok (.aload_n 0, 1) := by decide +kernel
theorem dX12_expression_163 : decode cX12_expression 163 = .ok (.iconst 1, 1) := by decide +kernel
theorem dX12_expression_164 : decode cX12_expression 164 = .ok (.aload_n 0, 1) := by decide +kernel
theorem dX12_expression_165 : decode cX12_expression 165 = .ok (.getfield 20, 3) := by decide +kernel
theorem dX12_expression_168 : decode cX12_expression 168 = .ok (.aload_n 0, 1) := by decide +kernel
theorem dX12_expression_169 : decode cX12_expression 169 = .ok (.getfield 248, 3) := by decide +kernel
theorem dX12_expression_172 : decode cX12_expression 172 = .ok (.iaload, 1) := by decide +kernel
theorem dX12_expression_173 : decode cX12_expression 173 = .ok (.bipush 26, 2) := by decide +kernel
theorem dX12_expression_175 : decode cX12_expression 175 = .ok (.isub, 1) := by decide +kernel
theorem dX12_expression_176 : decode cX12_expression 176 = .ok (.invokevirtual 300, 3) := by decide +kernel
theorem dX12_expression_179 : decode cX12_expression 179 = .ok (.goto 17, 3) := by decide +kernel
theorem dX12_expression_182 : decode cX12_expression 182 = .ok (.aload_n 0, 1) := by decide +kernel
theorem dX12_expression_183 : decode cX12_expression 183 = .ok (.iconst 0, 1) := by decide +kernel
theorem dX12_expression_184 : decode cX12_expression 184 = .ok (.aload_n 0, 1) := by decide +kernel
theorem dX12_expression_185 : decode cX12_expression 185 = .ok (.getfield 27, 3) := by decide +kernel
theorem dX12_expression_188 : decode cX12_expression 188 = .ok (.aload_n 0, 1) := by decide +kernel
theorem dX12_expression_189 : decode cX12_expression 189 = .ok (.getfield 248, 3) := by decide +kernel
theorem dX12_expression_192 : decode cX12_expression 192 = .ok (.iaload, 1) := by decide +kernel
theorem dX12_expression_193 : decode cX12_expression 193 = .ok (.invokevirtual 300, 3) := by decide +kernel
theorem dX12_expression_196 : decode cX12_expression 196 = .ok (.aload_n 0, 1) := by decide +kernel
theorem dX12_expression_197 : decode cX12_expression 197 = .ok (.invokevirtual 266, 3) := by decide +kernel
theorem dX12_expression_200 : decode cX12_expression 200 = .ok (.aload_n 0, 1) := by decide +kernel
theorem dX12_expression_201 : decode cX12_expression 201 = .ok (.bipush 7, 2) := by decide +kernel
theorem dX12_expression_203 : decode cX12_expression 203 = .ok (.invokevirtual 263, 3) := by decide +kernel
theorem dX12_expression_206 : decode cX12_expression 206 = .ok (.ifCond .eq 43, 3) := by decide +kernel
theorem dX12_expression_209 : decode cX12_expression 209 = .ok (.aload_n 0, 1) := by decide +kernel
theorem dX12_expression_210 : decode cX12_expression 210 = .ok (.getfield 275, 3) := by decide +kernel
theorem dX12_expression_213 : decode cX12_expression 213 = .ok (.iload_n 1, 1) := by decide +kernel
theorem dX12_expression_214 : decode cX12_expression 214 = .ok (.if_icmp .le 35, 3) := by decide +kernel
theorem dX12_expression_217 : decode cX12_expression 217 = .ok (.aload_n 0, 1) := by decide +kernel
theorem dX12_expression_218 : decode cX12_expression 218 = .ok (.iconst 0, 1) := by decide +kernel
theorem dX12_expression_219 : decode cX12_expression 219 = .ok (.invokevirtual 304, 3) := by decide +kernel
theorem dX12_expression_222 : decode cX12_expression 222 = .ok (.aload_n 0, 1) := by decide +kernel
theorem dX12_expression_223 : decode cX12_expression 223 = .ok (.dup, 1) := by decide +kernel
theorem dX12_expression_224 : decode cX12_expression 224 = .ok (.getfield 297, 3) := by decide +kernel
theorem dX12_expression_227 : decode cX12_expression 227 = .ok (.iconst 1, 1) := by decide +kernel
theorem dX12_expression_228 : decode cX12_expression 228 = .ok (.isub, 1) := by decide +kernel
theorem dX12_expression_229 : decode cX12_expression 229 = .ok (.putfield 297, 3) := by decide +kernel
theorem dX12_expression_232 : decode cX12_expression 232 = .ok (.aload_n 0, 1) := by decide +kernel
theorem dX12_expression_233 : decode cX12_expression 233 = .ok (.dup, 1) := by decide +kernel
theorem dX12_expression_234 : decode cX12_expression 234 = .ok (.getfield 275, 3) := by decide +kernel
theorem dX12_expression_237 : decode cX12_expression 237 = .ok (.iconst 1, 1) := by decide +kernel
theorem dX12_expression_238 : decode cX12_expression 238 = .ok (.isub, 1) := by decide +kernel
theorem dX12_expression_239 : decode cX12_expression 239 = .ok (.putfield 275, 3) := by decide +kernel
theorem dX12_expression_242 : decode cX12_expression 242 = .ok (.aload_n 0, 1) := by decide +kernel
theorem dX12_expression_243 : decode cX12_expression 243 = .ok (.invokevirtual 266, 3) := by decide +kernel
theorem dX12_expression_246 : decode cX12_expression 246 = .ok (.goto (-46), 3) := by decide +kernel
theorem dX12_expression_249 : decode cX12_expression 249 = .ok (.aload_n 0, 1) := by decide +kernel
theorem dX12_expression_250 : decode cX12_expression 250 = .ok (.bipush 8, 2) := by decide +kernel
theorem dX12_expression_252 : decode cX12_expression 252 = .ok (.invokevirtual 263, 3) := by decide +kernel
theorem dX12_expression_255 : decode cX12_expression 255 = .ok (.ifCond .ne 21, 3) := by decide +kernel
theorem dX12_expression_258 : decode cX12_expression 258 = .ok (.aload_n 0, 1) := by decide +kernel
theorem dX12_expression_259 : decode cX12_expression 259 = .ok (.bipush 9, 2) := by decide +kernel
theorem dX12_expression_261 : decode cX12_expression 261 = .ok (.invokevirtual 263, 3) := by decide +kernel
theorem dX12_expression_264 : decode cX12_expression 264 = .ok (.ifCond .ne 12, 3) := by decide +kernel
theorem dX12_expression_267 : decode cX12_expression 267 = .ok (.aload_n 0, 1) := by decide +kernel
theorem dX12_expression_268 : decode cX12_expression 268 = .ok (.bipush 10, 2) := by decide +kernel
theorem dX12_expression_270 : decode cX12_expression 270 = .ok (.invokevirtual 263, 3) := by decide +kernel
theorem dX12_expression_273 : decode cX12_expression 273 = .ok (.ifCond .eq 7, 3) := by decide +kernel
theorem dX12_expression_276 : decode cX12_expression 276 = .ok (.iconst 1, 1) := by decide +kernel
theorem dX12_expression_277 : decode cX12_expression 277 = .ok (.goto 4, 3) := by decide +kernel
theorem dX12_expression_280 : decode cX12_expression 280 = .ok (.iconst 0, 1) := by decide +kernel
theorem dX12_expression_281 : decode cX12_expression 281 = .ok (.istore_n 2, 1) := by decide +kernel
theorem dX12_expression_282 : decode cX12_expression 282 = .ok (.iload_n 2, 1) := by decide +kernel
theorem dX12_expression_283 : decode cX12_expression 283 = .ok (.ifCond .ne 22, 3) := by decide +kernel
theorem dX12_expression_286 : decode cX12_expression 286 = .ok (.aload_n 0, 1) := by decide +kernel
theorem dX12_expression_287 : decode cX12_expression 287 = .ok (.getfield 275, 3) := by decide +kernel
theorem dX12_expression_290 : decode cX12_expression 290 = .ok (.iload_n 1, 1) := by decide +kernel
theorem dX12_expression_291 : decode cX12_expression 291 = .ok (.if_icmp .le 8, 3) := by decide +kernel
theorem dX12_expression_294 : decode cX12_expression 294 = .ok (.aload_n 0, 1) := by decide +kernel
theorem dX12_expression_295 : decode cX12_expression 295 = .ok (.iconst 1, 1) := by decide +kernel
theorem dX12_expression_296 : decode cX12_expression 296 = .ok (.invokevirtual 260, 3) := by decide +kernel
theorem dX12_expression_299 : decode cX12_expression 299 = .ok (.aload_n 0, 1) := by decide +kernel
theorem dX12_expression_300 : decode cX12_expression 300 = .ok (.iconst 0, 1) := by decide +kernel
theorem dX12_expression_301 : decode cX12_expression 301 = .ok (.invokevirtual 304, 3) := by decide +kernel
theorem dX12_expression_304 : decode cX12_expression 304 = .ok (.return_, 1) := by decide +kernel
theorem dX12_expression_305 : decode cX12_expression 305 = .ok (.aload_n 0, 1) := by decide +kernel
theorem dX12_expression_306 : decode cX12_expression 306 = .ok (.getfield 20, 3) := by decide +kernel
theorem dX12_expression_309 : decode cX12_expression 309 = .ok (.aload_n 0, 1) := by decide +kernel
theorem dX12_expression_310 : decode cX12_expression 310 = .ok (.getfield 248, 3) := by decide +kernel
theorem dX12_expression_313 : decode cX12_expression 313 = .ok (.iaload, 1) := by decide +kernel
theorem dX12_expression_314 : decode cX12_expression 314 = .ok (.istore 4, 2) := by decide +kernel
theorem dX12_expression_316 : decode cX12_expression 316 = .ok (.aload_n 0, 1) := by decide +kernel
theorem dX12_expression_317 : decode cX12_expression 317 = .ok (.iload 4, 2) := by decide +kernel
theorem dX12_expression_319 : decode cX12_expression 319 = .ok (.bipush 10, 2) := by decide +kernel
theorem dX12_expression_321 : decode cX12_expression 321 = .ok (.if_icmp .ne 7, 3) := by decide +kernel
theorem dX12_expression_324 : decode cX12_expression 324 = .ok (.iconst 1, 1) := by decide +kernel
theorem dX12_expression_325 : decode cX12_expression 325 = .ok (.goto 4, 3) := by decide +kernel
theorem dX12_expression_328 : decode cX12_expression 328 = .ok (.iconst 0, 1) := by decide +kernel
theorem dX12_expression_329 : decode cX12_expression 329 = .ok (.invokevirtual 304, 3) := by decide +kernel
theorem dX12_expression_332 : decode cX12_expression 332 = .ok (.aload_n 0, 1) := by decide +kernel
theorem dX12_expression_333 : decode cX12_expression 333 = .ok (.getfield 86, 3) := by decide +kernel
theorem dX12_expression_336 : decode cX12_expression 336 = .ok (.aload_n 0, 1) := by decide +kernel
theorem dX12_expression_337 : decode cX12_expression 337 = .ok (.getfield 297, 3) := by decide +kernel
theorem dX12_expression_340 : decode cX12_expression 340 = .ok (.iload 4, 2) := by decide +kernel
theorem dX12_expression_342 : decode cX12_expression 342 = .ok (.iastore, 1) := by decide +kernel
theorem dX12_expression_343 : decode cX12_expression 343 = .ok (.aload_n 0, 1) := by decide +kernel
theorem dX12_expression_344 : decode cX12_expression 344 = .ok (.dup, 1) := by decide +kernel
theorem dX12_expression_345 : decode cX12_expression 345 = .ok (.getfield 297, 3) := by decide +kernel
theorem dX12_expression_348 : decode cX12_expression 348 = .ok (.iconst 1, 1) := by decide +kernel
theorem dX12_expression_349 : decode cX12_expression 349 = .ok (.iadd, 1) := by decide +kernel
theorem dX12_expression_350 : decode cX12_expression 350 = .ok (.putfield 297, 3) := by decide +kernel
theorem dX12_expression_353 : decode cX12_expression 353 = .ok (.aload_n 0, 1) := by decide +kernel
theorem dX12_expression_354 : decode cX12_expression 354 = .ok (.invokevirtual 266, 3) := by decide +kernel
theorem dX12_expression_357 : decode cX12_expression 357 = .ok (.goto (-345), 3) := by decide +kernel
theorem dX12_expression_360 : decode cX12_expression 360 = .ok (.return_, 1) := by decide +kernel
theorem dX12_isBuyer_0 : decode cX12_isBuyer 0 = .ok (.iload_n 1, 1) := by decide +kernel
theorem dX12_isBuyer_1 : decode cX12_isBuyer 1 = .ok (.ifCond .lt 15, 3) := by decide +kernel
theorem dX12_isBuyer_4 : decode cX12_isBuyer 4 = .ok (.iload_n 1, 1) := by decide +kernel
theorem dX12_isBuyer_5 : decode cX12_isBuyer 5 = .ok (.aload_n 0, 1) := by decide +kernel
theorem dX12_isBuyer_6 : decode cX12_isBuyer 6 = .ok (.getfield 269, 3) := by decide +kernel
theorem dX12_isBuyer_9 : decode cX12_isBuyer 9 = .ok (.if_icmp .ge 7, 3) := by decide +kernel
theorem dX12_isBuyer_12 : decode cX12_isBuyer 12 = .ok (.iconst 1, 1) := by decide +kernel
theorem dX12_isBuyer_13 : decode cX12_isBuyer 13 = .ok (.goto 4, 3) := by decide +kernel
theorem dX12_isBuyer_16 : decode cX12_isBuyer 16 = .ok (.iconst 0, 1) := by decide +kernel
theorem dX12_isBuyer_17 : decode cX12_isBuyer 17 = .ok (.ireturn, 1) := by decide +kernel
theorem dX12_isLot_0 : decode cX12_isLot 0 = .ok (.iload_n 1, 1) := by decide +kernel
theorem dX12_isLot_1 : decode cX12_isLot 1 = .ok (.ifCond .lt 15, 3) := by decide +kernel
theorem dX12_isLot_4 : decode cX12_isLot 4 = .ok (.iload_n 1, 1) := by decide +kernel
theorem dX12_isLot_5 : decode cX12_isLot 5 = .ok (.aload_n 0, 1) := by decide +kernel
theorem dX12_isLot_6 : decode cX12_isLot 6 = .ok (.getfield 307, 3) := by decide +kernel
theorem dX12_isLot_9 : decode cX12_isLot 9 = .ok (.if_icmp .ge 7, 3) := by decide +kernel
theorem dX12_isLot_12 : decode cX12_isLot 12 = .ok (.iconst 1, 1) := by decide +kernel
theorem dX12_isLot_13 : decode cX12_isLot 13 = .ok (.goto 4, 3) := by decide +kernel
theorem dX12_isLot_16 : decode cX12_isLot 16 = .ok (.iconst 0, 1) := by decide +kernel
theorem dX12_isLot_17 : decode cX12_isLot 17 = .ok (.ireturn, 1) := by decide +kernel
theorem dX12_isKind_0 : decode cX12_isKind 0 = .ok (.iload_n 0, 1) := by decide +kernel
theorem dX12_isKind_1 : decode cX12_isKind 1 = .ok (.ifCond .lt 13, 3) := by decide +kernel
theorem dX12_isKind_4 : decode cX12_isKind 4 = .ok (.iload_n 0, 1) := by decide +kernel
theorem dX12_isKind_5 : decode cX12_isKind 5 = .ok (.bipush 6, 2) := by decide +kernel
theorem dX12_isKind_7 : decode cX12_isKind 7 = .ok (.if_icmp .ge 7, 3) := by decide +kernel
theorem dX12_isKind_10 : decode cX12_isKind 10 = .ok (.iconst 1, 1) := by decide +kernel
theorem dX12_isKind_11 : decode cX12_isKind 11 = .ok (.goto 4, 3) := by decide +kernel
theorem dX12_isKind_14 : decode cX12_isKind 14 = .ok (.iconst 0, 1) := by decide +kernel
theorem dX12_isKind_15 : decode cX12_isKind 15 = .ok (.ireturn, 1) := by decide +kernel
theorem dX12_lot_0 : decode cX12_lot 0 = .ok (.aload_n 0, 1) := by decide +kernel
theorem dX12_lot_1 : decode cX12_lot 1 = .ok (.getfield 307, 3) := by decide +kernel
theorem dX12_lot_4 : decode cX12_lot 4 = .ok (.bipush 24, 2) := by decide +kernel
theorem dX12_lot_6 : decode cX12_lot 6 = .ok (.if_icmp .eq 60, 3) := by decide +kernel
theorem dX12_lot_9 : decode cX12_lot 9 = .ok (.aload_n 0, 1) := by decide +kernel
theorem dX12_lot_10 : decode cX12_lot 10 = .ok (.getfield 310, 3) := by decide +kernel
theorem dX12_lot_13 : decode cX12_lot 13 = .ok (.ifCond .ne 53, 3) := by decide +kernel
theorem dX12_lot_16 : decode cX12_lot 16 = .ok (.iload_n 1, 1) := by decide +kernel
theorem dX12_lot_17 : decode cX12_lot 17 = .ok (.ifCond .lt 49, 3) := by decide +kernel
theorem dX12_lot_20 : decode cX12_lot 20 = .ok (.iload_n 1, 1) := by decide +kernel
theorem dX12_lot_21 : decode cX12_lot 21 = .ok (.iconst 5, 1) := by decide +kernel
theorem dX12_lot_22 : decode cX12_lot 22 = .ok (.if_icmp .gt 44, 3) := by decide +kernel
theorem dX12_lot_25 : decode cX12_lot 25 = .ok (.iload_n 2, 1) := by decide +kernel
theorem dX12_lot_26 : decode cX12_lot 26 = .ok (.invokestatic 314, 3) := by decide +kernel
theorem dX12_lot_29 : decode cX12_lot 29 = .ok (.ifCond .eq 37, 3) := by decide +kernel
theorem dX12_lot_32 : decode cX12_lot 32 = .ok (.iload_n 3, 1) := by decide +kernel
theorem dX12_lot_33 : decode cX12_lot 33 = .ok (.ifCond .lt 33, 3) := by decide +kernel
theorem dX12_lot_36 : decode cX12_lot 36 = .ok (.iload_n 3, 1) := by decide +kernel
theorem dX12_lot_37 : decode cX12_lot 37 = .ok (.iconst 3, 1) := by decide +kernel
theorem dX12_lot_38 : decode cX12_lot 38 = .ok (.if_icmp .gt 28, 3) := by decide +kernel
theorem dX12_lot_41 : decode cX12_lot 41 = .ok (.iload 4, 2) := by decide +kernel
theorem dX12_lot_43 : decode cX12_lot 43 = .ok (.iconst 1, 1) := by decide +kernel
theorem dX12_lot_44 : decode cX12_lot 44 = .ok (.if_icmp .lt 22, 3) := by decide +kernel
theorem dX12_lot_47 : decode cX12_lot 47 = .ok (.iload 4, 2) := by decide +kernel
theorem dX12_lot_49 : decode cX12_lot 49 = .ok (.bipush 20, 2) := by decide +kernel
theorem dX12_lot_51 : decode cX12_lot 51 = .ok (.if_icmp .gt 15, 3) := by decide +kernel
theorem dX12_lot_54 : decode cX12_lot 54 = .ok (.iload 5, 2) := by decide +kernel
theorem dX12_lot_56 : decode cX12_lot 56 = .ok (.ifCond .lt 10, 3) := by decide +kernel
theorem dX12_lot_59 : decode cX12_lot 59 = .ok (.iload 5, 2) := by decide +kernel
theorem dX12_lot_61 : decode cX12_lot 61 = .ok (.bipush 9, 2) := by decide +kernel
theorem dX12_lot_63 : decode cX12_lot 63 = .ok (.if_icmp .le 5, 3) := by decide +kernel
theorem dX12_lot_66 : decode cX12_lot 66 = .ok (.iconst (-1), 1) := by decide +kernel
theorem dX12_lot_67 : decode cX12_lot 67 = .ok (.ireturn, 1) := by decide +kernel
theorem dX12_lot_68 : decode cX12_lot 68 = .ok (.aload_n 0, 1) := by decide +kernel
theorem dX12_lot_69 : decode cX12_lot 69 = .ok (.getfield 89, 3) := by decide +kernel
theorem dX12_lot_72 : decode cX12_lot 72 = .ok (.aload_n 0, 1) := by decide +kernel
theorem dX12_lot_73 : decode cX12_lot 73 = .ok (.getfield 307, 3) := by decide +kernel
theorem dX12_lot_76 : decode cX12_lot 76 = .ok (.iload_n 1, 1) := by decide +kernel
theorem dX12_lot_77 : decode cX12_lot 77 = .ok (.iastore, 1) := by decide +kernel
theorem dX12_lot_78 : decode cX12_lot 78 = .ok (.aload_n 0, 1) := by decide +kernel
theorem dX12_lot_79 : decode cX12_lot 79 = .ok (.getfield 92, 3) := by decide +kernel
theorem dX12_lot_82 : decode cX12_lot 82 = .ok (.aload_n 0, 1) := by decide +kernel
theorem dX12_lot_83 : decode cX12_lot 83 = .ok (.getfield 307, 3) := by decide +kernel
theorem dX12_lot_86 : decode cX12_lot 86 = .ok (.iload_n 2, 1) := by decide +kernel
theorem dX12_lot_87 : decode cX12_lot 87 = .ok (.iastore, 1) := by decide +kernel
theorem dX12_lot_88 : decode cX12_lot 88 = .ok (.aload_n 0, 1) := by decide +kernel
theorem dX12_lot_89 : decode cX12_lot 89 = .ok (.getfield 95, 3) := by decide +kernel
theorem dX12_lot_92 : decode cX12_lot 92 = .ok (.aload_n 0, 1) := by decide +kernel
theorem dX12_lot_93 : decode cX12_lot 93 = .ok (.getfield 307, 3) := by decide +kernel
theorem dX12_lot_96 : decode cX12_lot 96 = .ok (.iload_n 3, 1) := by decide +kernel
theorem dX12_lot_97 : decode cX12_lot 97 = .ok (.iastore, 1) := by decide +kernel
theorem dX12_lot_98 : decode cX12_lot 98 = .ok (.aload_n 0, 1) := by decide +kernel
theorem dX12_lot_99 : decode cX12_lot 99 = .ok (.getfield 98, 3) := by decide +kernel
theorem dX12_lot_102 : decode cX12_lot 102 = .ok (.aload_n 0, 1) := by decide +kernel
theorem dX12_lot_103 : decode cX12_lot 103 = .ok (.getfield 307, 3) := by decide +kernel
theorem dX12_lot_106 : decode cX12_lot 106 = .ok (.iload 4, 2) := by decide +kernel
theorem dX12_lot_108 : decode cX12_lot 108 = .ok (.iastore, 1) := by decide +kernel
theorem dX12_lot_109 : decode cX12_lot 109 = .ok (.aload_n 0, 1) := by decide +kernel
theorem dX12_lot_110 : decode cX12_lot 110 = .ok (.getfield 101, 3) := by decide +kernel
theorem dX12_lot_113 : decode cX12_lot 113 = .ok (.aload_n 0, 1) := by decide +kernel
theorem dX12_lot_114 : decode cX12_lot 114 = .ok (.getfield 307, 3) := by decide +kernel
theorem dX12_lot_117 : decode cX12_lot 117 = .ok (.iload 5, 2) := by decide +kernel
theorem dX12_lot_119 : decode cX12_lot 119 = .ok (.iastore, 1) := by decide +kernel
theorem dX12_lot_120 : decode cX12_lot 120 = .ok (.aload_n 0, 1) := by decide +kernel
theorem dX12_lot_121 : decode cX12_lot 121 = .ok (.dup, 1) := by decide +kernel
theorem dX12_lot_122 : decode cX12_lot 122 = .ok (.getfield 307, 3) := by decide +kernel
theorem dX12_lot_125 : decode cX12_lot 125 = .ok (.iconst 1, 1) := by decide +kernel
theorem dX12_lot_126 : decode cX12_lot 126 = .ok (.iadd, 1) := by decide +kernel
theorem dX12_lot_127 : decode cX12_lot 127 = .ok (.putfield 307, 3) := by decide +kernel
theorem dX12_lot_130 : decode cX12_lot 130 = .ok (.aload_n 0, 1) := by decide +kernel
theorem dX12_lot_131 : decode cX12_lot 131 = .ok (.getfield 307, 3) := by decide +kernel
theorem dX12_lot_134 : decode cX12_lot 134 = .ok (.iconst 1, 1) := by decide +kernel
theorem dX12_lot_135 : decode cX12_lot 135 = .ok (.isub, 1) := by decide +kernel
theorem dX12_lot_136 : decode cX12_lot 136 = .ok (.ireturn, 1) := by decide +kernel
theorem dX12_buyer_0 : decode cX12_buyer 0 = .ok (.aload_n 0, 1) := by decide +kernel
theorem dX12_buyer_1 : decode cX12_buyer 1 = .ok (.getfield 269, 3) := by decide +kernel
theorem dX12_buyer_4 : decode cX12_buyer 4 = .ok (.bipush 6, 2) := by decide +kernel
theorem dX12_buyer_6 : decode cX12_buyer 6 = .ok (.if_icmp .eq 23, 3) := by decide +kernel
theorem dX12_buyer_9 : decode cX12_buyer 9 = .ok (.iload_n 1, 1) := by decide +kernel
theorem dX12_buyer_10 : decode cX12_buyer 10 = .ok (.ifCond .lt 19, 3) := by decide +kernel
theorem dX12_buyer_13 : decode cX12_buyer 13 = .ok (.iload_n 1, 1) := by decide +kernel
theorem dX12_buyer_14 : decode cX12_buyer 14 = .ok (.iconst 3, 1) := by decide +kernel
theorem dX12_buyer_15 : decode cX12_buyer 15 = .ok (.if_icmp .gt 14, 3) := by decide +kernel
theorem dX12_buyer_18 : decode cX12_buyer 18 = .ok (.iload_n 2, 1) := by decide +kernel
theorem dX12_buyer_19 : decode cX12_buyer 19 = .ok (.ifCond .lt 10, 3) := by decide +kernel
theorem dX12_buyer_22 : decode cX12_buyer 22 = .ok (.iload_n 2, 1) := by decide +kernel
theorem dX12_buyer_23 : decode cX12_buyer 23 = .ok (.ldc_w 317, 3) := by decide +kernel
theorem dX12_buyer_26 : decode cX12_buyer 26 = .ok (.if_icmp .le 5, 3) := by decide +kernel
theorem dX12_buyer_29 : decode cX12_buyer 29 = .ok (.iconst (-1), 1) := by decide +kernel
theorem dX12_buyer_30 : decode cX12_buyer 30 = .ok (.ireturn, 1) := by decide +kernel
theorem dX12_buyer_31 : decode cX12_buyer 31 = .ok (.aload_n 0, 1) := by decide +kernel
theorem dX12_buyer_32 : decode cX12_buyer 32 = .ok (.getfield 104, 3) := by decide +kernel
theorem dX12_buyer_35 : decode cX12_buyer 35 = .ok (.aload_n 0, 1) := by decide +kernel
theorem dX12_buyer_36 : decode cX12_buyer 36 = .ok (.getfield 269, 3) := by decide +kernel
theorem dX12_buyer_39 : decode cX12_buyer 39 = .ok (.iload_n 1, 1) := by decide +kernel
theorem dX12_buyer_40 : decode cX12_buyer 40 = .ok (.iastore, 1) := by decide +kernel
theorem dX12_buyer_41 : decode cX12_buyer 41 = .ok (.aload_n 0, 1) := by decide +kernel
theorem dX12_buyer_42 : decode cX12_buyer 42 = .ok (.getfield 107, 3) := by decide +kernel
theorem dX12_buyer_45 : decode cX12_buyer 45 = .ok (.aload_n 0, 1) := by decide +kernel
theorem dX12_buyer_46 : decode cX12_buyer 46 = .ok (.getfield 269, 3) := by decide +kernel
theorem dX12_buyer_49 : decode cX12_buyer 49 = .ok (.iload_n 2, 1) := by decide +kernel
theorem dX12_buyer_50 : decode cX12_buyer 50 = .ok (.iastore, 1) := by decide +kernel
theorem dX12_buyer_51 : decode cX12_buyer 51 = .ok (.aload_n 0, 1) := by decide +kernel
theorem dX12_buyer_52 : decode cX12_buyer 52 = .ok (.dup, 1) := by decide +kernel
theorem dX12_buyer_53 : decode cX12_buyer 53 = .ok (.getfield 269, 3) := by decide +kernel
theorem dX12_buyer_56 : decode cX12_buyer 56 = .ok (.iconst 1, 1) := by decide +kernel
theorem dX12_buyer_57 : decode cX12_buyer 57 = .ok (.iadd, 1) := by decide +kernel
theorem dX12_buyer_58 : decode cX12_buyer 58 = .ok (.putfield 269, 3) := by decide +kernel
theorem dX12_buyer_61 : decode cX12_buyer 61 = .ok (.aload_n 0, 1) := by decide +kernel
theorem dX12_buyer_62 : decode cX12_buyer 62 = .ok (.getfield 269, 3) := by decide +kernel
theorem dX12_buyer_65 : decode cX12_buyer 65 = .ok (.iconst 1, 1) := by decide +kernel
theorem dX12_buyer_66 : decode cX12_buyer 66 = .ok (.isub, 1) := by decide +kernel
theorem dX12_buyer_67 : decode cX12_buyer 67 = .ok (.ireturn, 1) := by decide +kernel
theorem dX12_want_0 : decode cX12_want 0 = .ok (.aload_n 0, 1) := by decide +kernel
theorem dX12_want_1 : decode cX12_want 1 = .ok (.iload_n 1, 1) := by decide +kernel
theorem dX12_want_2 : decode cX12_want 2 = .ok (.invokevirtual 318, 3) := by decide +kernel
theorem dX12_want_5 : decode cX12_want 5 = .ok (.ifCond .eq 21, 3) := by decide +kernel
theorem dX12_want_8 : decode cX12_want 8 = .ok (.iload_n 2, 1) := by decide +kernel
theorem dX12_want_9 : decode cX12_want 9 = .ok (.invokestatic 314, 3) := by decide +kernel
theorem dX12_want_12 : decode cX12_want 12 = .ok (.ifCond .eq 14, 3) := by decide +kernel
theorem dX12_want_15 : decode cX12_want 15 = .ok (.iload_n 3, 1) := by decide +kernel
theorem dX12_want_16 : decode cX12_want 16 = .ok (.ifCond .lt 10, 3) := by decide +kernel
theorem dX12_want_19 : decode cX12_want 19 = .ok (.iload_n 3, 1) := by decide +kernel
theorem dX12_want_20 : decode cX12_want 20 = .ok (.sipush 500, 3) := by decide +kernel
theorem dX12_want_23 : decode cX12_want 23 = .ok (.if_icmp .le 5, 3) := by decide +kernel
theorem dX12_want_26 : decode cX12_want 26 = .ok (.iconst 0, 1) := by decide +kernel
theorem dX12_want_27 : decode cX12_want 27 = .ok (.ireturn, 1) := by decide +kernel
theorem dX12_want_28 : decode cX12_want 28 = .ok (.aload_n 0, 1) := by decide +kernel
theorem dX12_want_29 : decode cX12_want 29 = .ok (.getfield 110, 3) := by decide +kernel
theorem dX12_want_32 : decode cX12_want 32 = .ok (.bipush 6, 2) := by decide +kernel
theorem dX12_want_34 : decode cX12_want 34 = .ok (.iload_n 1, 1) := by decide +kernel
theorem dX12_want_35 : decode cX12_want 35 = .ok (.imul, 1) := by decide +kernel
theorem dX12_want_36 : decode cX12_want 36 = .ok (.iload_n 2, 1) := by decide +kernel
theorem dX12_want_37 : decode cX12_want 37 = .ok (.iadd, 1) := by decide +kernel
theorem dX12_want_38 : decode cX12_want 38 = .ok (.iload_n 3, 1) := by decide +kernel
theorem dX12_want_39 : decode cX12_want 39 = .ok (.iastore, 1) := by decide +kernel
theorem dX12_want_40 : decode cX12_want 40 = .ok (.iconst 1, 1) := by decide +kernel
theorem dX12_want_41 : decode cX12_want 41 = .ok (.ireturn, 1) := by decide +kernel
theorem dX12_lorry_0 : decode cX12_lorry 0 = .ok (.aload_n 0, 1) := by decide +kernel
theorem dX12_lorry_1 : decode cX12_lorry 1 = .ok (.getfield 321, 3) := by decide +kernel
theorem dX12_lorry_4 : decode cX12_lorry 4 = .ok (.bipush 6, 2) := by decide +kernel
theorem dX12_lorry_6 : decode cX12_lorry 6 = .ok (.if_icmp .eq 34, 3) := by decide +kernel
theorem dX12_lorry_9 : decode cX12_lorry 9 = .ok (.iload_n 1, 1) := by decide +kernel
theorem dX12_lorry_10 : decode cX12_lorry 10 = .ok (.ifCond .lt 30, 3) := by decide +kernel
theorem dX12_lorry_13 : decode cX12_lorry 13 = .ok (.iload_n 1, 1) := by decide +kernel
theorem dX12_lorry_14 : decode cX12_lorry 14 = .ok (.iconst 3, 1) := by decide +kernel
theorem dX12_lorry_15 : decode cX12_lorry 15 = .ok (.if_icmp .gt 25, 3) := by decide +kernel
theorem dX12_lorry_18 : decode cX12_lorry 18 = .ok (.iload_n 2, 1) := by decide +kernel
theorem dX12_lorry_19 : decode cX12_lorry 19 = .ok (.iconst 1, 1) := by decide +kernel
theorem dX12_lorry_20 : decode cX12_lorry 20 = .ok (.if_icmp .lt 20, 3) := by decide +kernel
theorem dX12_lorry_23 : decode cX12_lorry 23 = .ok (.iload_n 2, 1) := by decide +kernel
theorem dX12_lorry_24 : decode cX12_lorry 24 = .ok (.bipush 60, 2) := by decide +kernel
theorem dX12_lorry_26 : decode cX12_lorry 26 = .ok (.if_icmp .gt 14, 3) := by decide +kernel
theorem dX12_lorry_29 : decode cX12_lorry 29 = .ok (.iload_n 3, 1) := by decide +kernel
theorem dX12_lorry_30 : decode cX12_lorry 30 = .ok (.ifCond .lt 10, 3) := by decide +kernel
theorem dX12_lorry_33 : decode cX12_lorry 33 = .ok (.iload_n 3, 1) := by decide +kernel
theorem dX12_lorry_34 : decode cX12_lorry 34 = .ok (.ldc_w 324, 3) := by decide +kernel
theorem dX12_lorry_37 : decode cX12_lorry 37 = .ok (.if_icmp .le 5, 3) := by decide +kernel
theorem dX12_lorry_40 : decode cX12_lorry 40 = .ok (.iconst (-1), 1) := by decide +kernel
theorem dX12_lorry_41 : decode cX12_lorry 41 = .ok (.ireturn, 1) := by decide +kernel
theorem dX12_lorry_42 : decode cX12_lorry 42 = .ok (.aload_n 0, 1) := by decide +kernel
theorem dX12_lorry_43 : decode cX12_lorry 43 = .ok (.getfield 116, 3) := by decide +kernel
theorem dX12_lorry_46 : decode cX12_lorry 46 = .ok (.aload_n 0, 1) := by decide +kernel
theorem dX12_lorry_47 : decode cX12_lorry 47 = .ok (.getfield 321, 3) := by decide +kernel
theorem dX12_lorry_50 : decode cX12_lorry 50 = .ok (.iload_n 1, 1) := by decide +kernel
theorem dX12_lorry_51 : decode cX12_lorry 51 = .ok (.iastore, 1) := by decide +kernel
theorem dX12_lorry_52 : decode cX12_lorry 52 = .ok (.aload_n 0, 1) := by decide +kernel
theorem dX12_lorry_53 : decode cX12_lorry 53 = .ok (.getfield 119, 3) := by decide +kernel
theorem dX12_lorry_56 : decode cX12_lorry 56 = .ok (.aload_n 0, 1) := by decide +kernel
theorem dX12_lorry_57 : decode cX12_lorry 57 = .ok (.getfield 321, 3) := by decide +kernel
theorem dX12_lorry_60 : decode cX12_lorry 60 = .ok (.iload_n 2, 1) := by decide +kernel
theorem dX12_lorry_61 : decode cX12_lorry 61 = .ok (.iastore, 1) := by decide +kernel
theorem dX12_lorry_62 : decode cX12_lorry 62 = .ok (.aload_n 0, 1) := by decide +kernel
theorem dX12_lorry_63 : decode cX12_lorry 63 = .ok (.getfield 122, 3) := by decide +kernel
theorem dX12_lorry_66 : decode cX12_lorry 66 = .ok (.aload_n 0, 1) := by decide +kernel
theorem dX12_lorry_67 : decode cX12_lorry 67 = .ok (.getfield 321, 3) := by decide +kernel
theorem dX12_lorry_70 : decode cX12_lorry 70 = .ok (.iload_n 3, 1) := by decide +kernel
theorem dX12_lorry_71 : decode cX12_lorry 71 = .ok (.iastore, 1) := by decide +kernel
theorem dX12_lorry_72 : decode cX12_lorry 72 = .ok (.aload_n 0, 1) := by decide +kernel
theorem dX12_lorry_73 : decode cX12_lorry 73 = .ok (.dup, 1) := by decide +kernel
theorem dX12_lorry_74 : decode cX12_lorry 74 = .ok (.getfield 321, 3) := by decide +kernel
theorem dX12_lorry_77 : decode cX12_lorry 77 = .ok (.iconst 1, 1) := by decide +kernel
theorem dX12_lorry_78 : decode cX12_lorry 78 = .ok (.iadd, 1) := by decide +kernel
theorem dX12_lorry_79 : decode cX12_lorry 79 = .ok (.putfield 321, 3) := by decide +kernel
theorem dX12_lorry_82 : decode cX12_lorry 82 = .ok (.aload_n 0, 1) := by decide +kernel
theorem dX12_lorry_83 : decode cX12_lorry 83 = .ok (.getfield 321, 3) := by decide +kernel
theorem dX12_lorry_86 : decode cX12_lorry 86 = .ok (.iconst 1, 1) := by decide +kernel
theorem dX12_lorry_87 : decode cX12_lorry 87 = .ok (.isub, 1) := by decide +kernel
theorem dX12_lorry_88 : decode cX12_lorry 88 = .ok (.ireturn, 1) := by decide +kernel
theorem dX12_left_0 : decode cX12_left 0 = .ok (.aload_n 0, 1) := by decide +kernel
theorem dX12_left_1 : decode cX12_left 1 = .ok (.getfield 110, 3) := by decide +kernel
theorem dX12_left_4 : decode cX12_left 4 = .ok (.bipush 6, 2) := by decide +kernel
theorem dX12_left_6 : decode cX12_left 6 = .ok (.iload_n 1, 1) := by decide +kernel
theorem dX12_left_7 : decode cX12_left 7 = .ok (.imul, 1) := by decide +kernel
theorem dX12_left_8 : decode cX12_left 8 = .ok (.iload_n 2, 1) := by decide +kernel
theorem dX12_left_9 : decode cX12_left 9 = .ok (.iadd, 1) := by decide +kernel
theorem dX12_left_10 : decode cX12_left 10 = .ok (.iaload, 1) := by decide +kernel
theorem dX12_left_11 : decode cX12_left 11 = .ok (.aload_n 0, 1) := by decide +kernel
theorem dX12_left_12 : decode cX12_left 12 = .ok (.getfield 140, 3) := by decide +kernel
theorem dX12_left_15 : decode cX12_left 15 = .ok (.bipush 6, 2) := by decide +kernel
theorem dX12_left_17 : decode cX12_left 17 = .ok (.iload_n 1, 1) := by decide +kernel
theorem dX12_left_18 : decode cX12_left 18 = .ok (.imul, 1) := by decide +kernel
theorem dX12_left_19 : decode cX12_left 19 = .ok (.iload_n 2, 1) := by decide +kernel
theorem dX12_left_20 : decode cX12_left 20 = .ok (.iadd, 1) := by decide +kernel
theorem dX12_left_21 : decode cX12_left 21 = .ok (.iaload, 1) := by decide +kernel
theorem dX12_left_22 : decode cX12_left 22 = .ok (.isub, 1) := by decide +kernel
theorem dX12_left_23 : decode cX12_left 23 = .ok (.istore_n 3, 1) := by decide +kernel
theorem dX12_left_24 : decode cX12_left 24 = .ok (.iload_n 3, 1) := by decide +kernel
theorem dX12_left_25 : decode cX12_left 25 = .ok (.ifCond .le 7, 3) := by decide +kernel
theorem dX12_left_28 : decode cX12_left 28 = .ok (.iload_n 3, 1) := by decide +kernel
theorem dX12_left_29 : decode cX12_left 29 = .ok (.goto 4, 3) := by decide +kernel
theorem dX12_left_32 : decode cX12_left 32 = .ok (.iconst 0, 1) := by decide +kernel
theorem dX12_left_33 : decode cX12_left 33 = .ok (.ireturn, 1) := by decide +kernel
theorem dX12_asks_0 : decode cX12_asks 0 = .ok (.aload_n 0, 1) := by decide +kernel
theorem dX12_asks_1 : decode cX12_asks 1 = .ok (.getfield 134, 3) := by decide +kernel
theorem dX12_asks_4 : decode cX12_asks 4 = .ok (.iconst 0, 1) := by decide +kernel
theorem dX12_asks_5 : decode cX12_asks 5 = .ok (.aload_n 0, 1) := by decide +kernel
theorem dX12_asks_6 : decode cX12_asks 6 = .ok (.getfield 89, 3) := by decide +kernel
theorem dX12_asks_9 : decode cX12_asks 9 = .ok (.iload_n 2, 1) := by decide +kernel
theorem dX12_asks_10 : decode cX12_asks 10 = .ok (.iaload, 1) := by decide +kernel
theorem dX12_asks_11 : decode cX12_asks 11 = .ok (.iastore, 1) := by decide +kernel
theorem dX12_asks_12 : decode cX12_asks 12 = .ok (.aload_n 0, 1) := by decide +kernel
theorem dX12_asks_13 : decode cX12_asks 13 = .ok (.getfield 134, 3) := by decide +kernel
theorem dX12_asks_16 : decode cX12_asks 16 = .ok (.iconst 1, 1) := by decide +kernel
theorem dX12_asks_17 : decode cX12_asks 17 = .ok (.aload_n 0, 1) := by decide +kernel
theorem dX12_asks_18 : decode cX12_asks 18 = .ok (.getfield 92, 3) := by decide +kernel
theorem dX12_asks_21 : decode cX12_asks 21 = .ok (.iload_n 2, 1) := by decide +kernel
theorem dX12_asks_22 : decode cX12_asks 22 = .ok (.iaload, 1) := by decide +kernel
theorem dX12_asks_23 : decode cX12_asks 23 = .ok (.iastore, 1) := by decide +kernel
theorem dX12_asks_24 : decode cX12_asks 24 = .ok (.aload_n 0, 1) := by decide +kernel
theorem dX12_asks_25 : decode cX12_asks 25 = .ok (.getfield 134, 3) := by decide +kernel
theorem dX12_asks_28 : decode cX12_asks 28 = .ok (.iconst 2, 1) := by decide +kernel
theorem dX12_asks_29 : decode cX12_asks 29 = .ok (.aload_n 0, 1) := by decide +kernel
theorem dX12_asks_30 : decode cX12_asks 30 = .ok (.getfield 95, 3) := by decide +kernel
theorem dX12_asks_33 : decode cX12_asks 33 = .ok (.iload_n 2, 1) := by decide +kernel
theorem dX12_asks_34 : decode cX12_asks 34 = .ok (.iaload, 1) := by decide +kernel
theorem dX12_asks_35 : decode cX12_asks 35 = .ok (.iastore, 1) := by decide +kernel
theorem dX12_asks_36 : decode cX12_asks 36 = .ok (.aload_n 0, 1) := by decide +kernel
theorem dX12_asks_37 : decode cX12_asks 37 = .ok (.getfield 134, 3) := by decide +kernel
theorem dX12_asks_40 : decode cX12_asks 40 = .ok (.iconst 3, 1) := by decide +kernel
theorem dX12_asks_41 : decode cX12_asks 41 = .ok (.aload_n 0, 1) := by decide +kernel
theorem dX12_asks_42 : decode cX12_asks 42 = .ok (.getfield 98, 3) := by decide +kernel
theorem dX12_asks_45 : decode cX12_asks 45 = .ok (.iload_n 2, 1) := by decide +kernel
theorem dX12_asks_46 : decode cX12_asks 46 = .ok (.iaload, 1) := by decide +kernel
theorem dX12_asks_47 : decode cX12_asks 47 = .ok (.iastore, 1) := by decide +kernel
theorem dX12_asks_48 : decode cX12_asks 48 = .ok (.aload_n 0, 1) := by decide +kernel
theorem dX12_asks_49 : decode cX12_asks 49 = .ok (.getfield 134, 3) := by decide +kernel
theorem dX12_asks_52 : decode cX12_asks 52 = .ok (.iconst 4, 1) := by decide +kernel
theorem dX12_asks_53 : decode cX12_asks 53 = .ok (.aload_n 0, 1) := by decide +kernel
theorem dX12_asks_54 : decode cX12_asks 54 = .ok (.getfield 101, 3) := by decide +kernel
theorem dX12_asks_57 : decode cX12_asks 57 = .ok (.iload_n 2, 1) := by decide +kernel
theorem dX12_asks_58 : decode cX12_asks 58 = .ok (.iaload, 1) := by decide +kernel
theorem dX12_asks_59 : decode cX12_asks 59 = .ok (.iastore, 1) := by decide +kernel
theorem dX12_asks_60 : decode cX12_asks 60 = .ok (.aload_n 0, 1) := by decide +kernel
theorem dX12_asks_61 : decode cX12_asks 61 = .ok (.getfield 134, 3) := by decide +kernel
theorem dX12_asks_64 : decode cX12_asks 64 = .ok (.iconst 5, 1) := by decide +kernel
theorem dX12_asks_65 : decode cX12_asks 65 = .ok (.aload_n 0, 1) := by decide +kernel
theorem dX12_asks_66 : decode cX12_asks 66 = .ok (.getfield 113, 3) := by decide +kernel
theorem dX12_asks_69 : decode cX12_asks 69 = .ok (.aload_n 0, 1) := by decide +kernel
theorem dX12_asks_70 : decode cX12_asks 70 = .ok (.getfield 92, 3) := by decide +kernel
theorem dX12_asks_73 : decode cX12_asks 73 = .ok (.iload_n 2, 1) := by decide +kernel
theorem dX12_asks_74 : decode cX12_asks 74 = .ok (.iaload, 1) := by decide +kernel
theorem dX12_asks_75 : decode cX12_asks 75 = .ok (.iaload, 1) := by decide +kernel
theorem dX12_asks_76 : decode cX12_asks 76 = .ok (.iastore, 1) := by decide +kernel
theorem dX12_asks_77 : decode cX12_asks 77 = .ok (.aload_n 0, 1) := by decide +kernel
theorem dX12_asks_78 : decode cX12_asks 78 = .ok (.getfield 134, 3) := by decide +kernel
theorem dX12_asks_81 : decode cX12_asks 81 = .ok (.bipush 6, 2) := by decide +kernel
theorem dX12_asks_83 : decode cX12_asks 83 = .ok (.iload_n 1, 1) := by decide +kernel
theorem dX12_asks_84 : decode cX12_asks 84 = .ok (.iconst (-1), 1) := by decide +kernel
theorem dX12_asks_85 : decode cX12_asks 85 = .ok (.if_icmp .ne 7, 3) := by decide +kernel
theorem dX12_asks_88 : decode cX12_asks 88 = .ok (.iconst 0, 1) := by decide +kernel
theorem dX12_asks_89 : decode cX12_asks 89 = .ok (.goto 19, 3) := by decide +kernel
theorem dX12_asks_92 : decode cX12_asks 92 = .ok (.aload_n 0, 1) := by decide +kernel
theorem dX12_asks_93 : decode cX12_asks 93 = .ok (.getfield 140, 3) := by decide +kernel
theorem dX12_asks_96 : decode cX12_asks 96 = .ok (.bipush 6, 2) := by decide +kernel
theorem dX12_asks_98 : decode cX12_asks 98 = .ok (.iload_n 1, 1) := by decide +kernel
theorem dX12_asks_99 : decode cX12_asks 99 = .ok (.imul, 1) := by decide +kernel
theorem dX12_asks_100 : decode cX12_asks 100 = .ok (.aload_n 0, 1) := by decide +kernel
theorem dX12_asks_101 : decode cX12_asks 101 = .ok (.getfield 92, 3) := by decide +kernel
theorem dX12_asks_104 : decode cX12_asks 104 = .ok (.iload_n 2, 1) := by decide +kernel
theorem dX12_asks_105 : decode cX12_asks 105 = .ok (.iaload, 1) := by decide +kernel
theorem dX12_asks_106 : decode cX12_asks 106 = .ok (.iadd, 1) := by decide +kernel
theorem dX12_asks_107 : decode cX12_asks 107 = .ok (.iaload, 1) := by decide +kernel
theorem dX12_asks_108 : decode cX12_asks 108 = .ok (.iastore, 1) := by decide +kernel
theorem dX12_asks_109 : decode cX12_asks 109 = .ok (.aload_n 0, 1) := by decide +kernel
theorem dX12_asks_110 : decode cX12_asks 110 = .ok (.getfield 134, 3) := by decide +kernel
theorem dX12_asks_113 : decode cX12_asks 113 = .ok (.bipush 7, 2) := by decide +kernel
theorem dX12_asks_115 : decode cX12_asks 115 = .ok (.iload_n 1, 1) := by decide +kernel
theorem dX12_asks_116 : decode cX12_asks 116 = .ok (.iconst (-1), 1) := by decide +kernel
theorem dX12_asks_117 : decode cX12_asks 117 = .ok (.if_icmp .ne 7, 3) := by decide +kernel
theorem dX12_asks_120 : decode cX12_asks 120 = .ok (.iconst 0, 1) := by decide +kernel
theorem dX12_asks_121 : decode cX12_asks 121 = .ok (.goto 14, 3) := by decide +kernel
theorem dX12_asks_124 : decode cX12_asks 124 = .ok (.aload_n 0, 1) := by decide +kernel
theorem dX12_asks_125 : decode cX12_asks 125 = .ok (.iload_n 1, 1) := by decide +kernel
theorem dX12_asks_126 : decode cX12_asks 126 = .ok (.aload_n 0, 1) := by decide +kernel
theorem dX12_asks_127 : decode cX12_asks 127 = .ok (.getfield 92, 3) := by decide +kernel
theorem dX12_asks_130 : decode cX12_asks 130 = .ok (.iload_n 2, 1) := by decide +kernel
theorem dX12_asks_131 : decode cX12_asks 131 = .ok (.iaload, 1) := by decide +kernel
theorem dX12_asks_132 : decode cX12_asks 132 = .ok (.invokevirtual 325, 3) := by decide +kernel
theorem dX12_asks_135 : decode cX12_asks 135 = .ok (.iastore, 1) := by decide +kernel
theorem dX12_asks_136 : decode cX12_asks 136 = .ok (.aload_n 0, 1) := by decide +kernel
theorem dX12_asks_137 : decode cX12_asks 137 = .ok (.getfield 134, 3) := by decide +kernel
theorem dX12_asks_140 : decode cX12_asks 140 = .ok (.bipush 8, 2) := by decide +kernel
theorem dX12_asks_142 : decode cX12_asks 142 = .ok (.iload_n 1, 1) := by decide +kernel
theorem dX12_asks_143 : decode cX12_asks 143 = .ok (.iconst (-1), 1) := by decide +kernel
theorem dX12_asks_144 : decode cX12_asks 144 = .ok (.if_icmp .ne 7, 3) := by decide +kernel
theorem dX12_asks_147 : decode cX12_asks 147 = .ok (.iconst 0, 1) := by decide +kernel
theorem dX12_asks_148 : decode cX12_asks 148 = .ok (.goto 16, 3) := by decide +kernel
theorem dX12_asks_151 : decode cX12_asks 151 = .ok (.aload_n 0, 1) := by decide +kernel
theorem dX12_asks_152 : decode cX12_asks 152 = .ok (.getfield 107, 3) := by decide +kernel
theorem dX12_asks_155 : decode cX12_asks 155 = .ok (.iload_n 1, 1) := by decide +kernel
theorem dX12_asks_156 : decode cX12_asks 156 = .ok (.iaload, 1) := by decide +kernel
theorem dX12_asks_157 : decode cX12_asks 157 = .ok (.aload_n 0, 1) := by decide +kernel
theorem dX12_asks_158 : decode cX12_asks 158 = .ok (.getfield 143, 3) := by decide +kernel
theorem dX12_asks_161 : decode cX12_asks 161 = .ok (.iload_n 1, 1) := by decide +kernel
theorem dX12_asks_162 : decode cX12_asks 162 = .ok (.iaload, 1) := by decide +kernel
theorem dX12_asks_163 : decode cX12_asks 163 = .ok (.isub, 1) := by decide +kernel
theorem dX12_asks_164 : decode cX12_asks 164 = .ok (.iastore, 1) := by decide +kernel
theorem dX12_asks_165 : decode cX12_asks 165 = .ok (.aload_n 0, 1) := by decide +kernel
theorem dX12_asks_166 : decode cX12_asks 166 = .ok (.getfield 134, 3) := by decide +kernel
theorem dX12_asks_169 : decode cX12_asks 169 = .ok (.bipush 9, 2) := by decide +kernel
theorem dX12_asks_171 : decode cX12_asks 171 = .ok (.iload_n 2, 1) := by decide +kernel
theorem dX12_asks_172 : decode cX12_asks 172 = .ok (.iastore, 1) := by decide +kernel
theorem dX12_asks_173 : decode cX12_asks 173 = .ok (.return_, 1) := by decide +kernel
theorem dX12_value_0 : decode cX12_value 0 = .ok (.iconst 0, 1) := by decide +kernel
theorem dX12_value_1 : decode cX12_value 1 = .ok (.istore_n 3, 1) := by decide +kernel
theorem dX12_value_2 : decode cX12_value 2 = .ok (.iload_n 1, 1) := by decide +kernel
theorem dX12_value_3 : decode cX12_value 3 = .ok (.istore 4, 2) := by decide +kernel
theorem dX12_value_5 : decode cX12_value 5 = .ok (.iload 4, 2) := by decide +kernel
theorem dX12_value_7 : decode cX12_value 7 = .ok (.iload_n 2, 1) := by decide +kernel
theorem dX12_value_8 : decode cX12_value 8 = .ok (.if_icmp .ge 136, 3) := by decide +kernel
theorem dX12_value_11 : decode cX12_value 11 = .ok (.aload_n 0, 1) := by decide +kernel
theorem dX12_value_12 : decode cX12_value 12 = .ok (.getfield 80, 3) := by decide +kernel
theorem dX12_value_15 : decode cX12_value 15 = .ok (.iload 4, 2) := by decide +kernel
theorem dX12_value_17 : decode cX12_value 17 = .ok (.iaload, 1) := by decide +kernel
theorem dX12_value_18 : decode cX12_value 18 = .ok (.iconst 2, 1) := by decide +kernel
theorem dX12_value_19 : decode cX12_value 19 = .ok (.if_icmp .ge 47, 3) := by decide +kernel
theorem dX12_value_22 : decode cX12_value 22 = .ok (.aload_n 0, 1) := by decide +kernel
theorem dX12_value_23 : decode cX12_value 23 = .ok (.getfield 137, 3) := by decide +kernel
theorem dX12_value_26 : decode cX12_value 26 = .ok (.iload_n 3, 1) := by decide +kernel
theorem dX12_value_27 : decode cX12_value 27 = .ok (.aload_n 0, 1) := by decide +kernel
theorem dX12_value_28 : decode cX12_value 28 = .ok (.getfield 80, 3) := by decide +kernel
theorem dX12_value_31 : decode cX12_value 31 = .ok (.iload 4, 2) := by decide +kernel
theorem dX12_value_33 : decode cX12_value 33 = .ok (.iaload, 1) := by decide +kernel
theorem dX12_value_34 : decode cX12_value 34 = .ok (.ifCond .ne 13, 3) := by decide +kernel
theorem dX12_value_37 : decode cX12_value 37 = .ok (.aload_n 0, 1) := by decide +kernel
theorem dX12_value_38 : decode cX12_value 38 = .ok (.getfield 83, 3) := by decide +kernel
theorem dX12_value_41 : decode cX12_value 41 = .ok (.iload 4, 2) := by decide +kernel
theorem dX12_value_43 : decode cX12_value 43 = .ok (.iaload, 1) := by decide +kernel
theorem dX12_value_44 : decode cX12_value 44 = .ok (.goto 15, 3) := by decide +kernel
theorem dX12_value_47 : decode cX12_value 47 = .ok (.aload_n 0, 1) := by decide +kernel
theorem dX12_value_48 : decode cX12_value 48 = .ok (.getfield 134, 3) := by decide +kernel
theorem dX12_value_51 : decode cX12_value 51 = .ok (.aload_n 0, 1) := by decide +kernel
theorem dX12_value_52 : decode cX12_value 52 = .ok (.getfield 83, 3) := by decide +kernel
theorem dX12_value_55 : decode cX12_value 55 = .ok (.iload 4, 2) := by decide +kernel
theorem dX12_value_57 : decode cX12_value 57 = .ok (.iaload, 1) := by decide +kernel
theorem dX12_value_58 : decode cX12_value 58 = .ok (.iaload, 1) := by decide +kernel
theorem dX12_value_59 : decode cX12_value 59 = .ok (.iastore, 1) := by decide +kernel
theorem dX12_value_60 : decode cX12_value 60 = .ok (.iinc 3 1, 3) := by decide +kernel
theorem dX12_value_63 : decode cX12_value 63 = .ok (.goto 75, 3) := by decide +kernel
theorem dX12_value_66 : decode cX12_value 66 = .ok (.iinc 3 (-1), 3) := by decide +kernel
theorem dX12_value_69 : decode cX12_value 69 = .ok (.aload_n 0, 1) := by decide +kernel
theorem dX12_value_70 : decode cX12_value 70 = .ok (.getfield 137, 3) := by decide +kernel
theorem dX12_value_73 : decode cX12_value 73 = .ok (.iload_n 3, 1) := by decide +kernel
theorem dX12_value_74 : decode cX12_value 74 = .ok (.iconst 1, 1) := by decide +kernel
theorem dX12_value_75 : decode cX12_value 75 = .ok (.isub, 1) := by decide +kernel
theorem dX12_value_76 : decode cX12_value 76 = .ok (.iaload, 1) := by decide +kernel
theorem dX12_value_77 : decode cX12_value 77 = .ok (.istore 5, 2) := by decide +kernel
theorem dX12_value_79 : decode cX12_value 79 = .ok (.aload_n 0, 1) := by decide +kernel
theorem dX12_value_80 : decode cX12_value 80 = .ok (.getfield 137, 3) := by decide +kernel
theorem dX12_value_83 : decode cX12_value 83 = .ok (.iload_n 3, 1) := by decide +kernel
theorem dX12_value_84 : decode cX12_value 84 = .ok (.iaload, 1) := by decide +kernel
theorem dX12_value_85 : decode cX12_value 85 = .ok (.istore 6, 2) := by decide +kernel
theorem dX12_value_87 : decode cX12_value 87 = .ok (.aload_n 0, 1) := by decide +kernel
theorem dX12_value_88 : decode cX12_value 88 = .ok (.getfield 137, 3) := by decide +kernel
theorem dX12_value_91 : decode cX12_value 91 = .ok (.iload_n 3, 1) := by decide +kernel
theorem dX12_value_92 : decode cX12_value 92 = .ok (.iconst 1, 1) := by decide +kernel
theorem dX12_value_93 : decode cX12_value 93 = .ok (.isub, 1) := by decide +kernel
theorem dX12_value_94 : decode cX12_value 94 = .ok (.aload_n 0, 1) := by decide +kernel
theorem dX12_value_95 : decode cX12_value 95 = .ok (.getfield 80, 3) := by decide +kernel
theorem dX12_value_98 : decode cX12_value 98 = .ok (.iload 4, 2) := by decide +kernel
theorem dX12_value_100 : decode cX12_value 100 = .ok (.iaload, 1) := by decide +kernel
theorem dX12_value_101 : decode cX12_value 101 = .ok (.iconst 2, 1) := by decide +kernel
theorem dX12_value_102 : decode cX12_value 102 = .ok (.if_icmp .ne 11, 3) := by decide +kernel
theorem dX12_value_105 : decode cX12_value 105 = .ok (.iload 5, 2) := by decide +kernel
theorem dX12_value_107 : decode cX12_value 107 = .ok (.iload 6, 2) := by decide +kernel
theorem dX12_value_109 : decode cX12_value 109 = .ok (.iadd, 1) := by decide +kernel
theorem dX12_value_110 : decode cX12_value 110 = .ok (.goto 27, 3) := by decide +kernel
theorem dX12_value_113 : decode cX12_value 113 = .ok (.aload_n 0, 1) := by decide +kernel
theorem dX12_value_114 : decode cX12_value 114 = .ok (.getfield 80, 3) := by decide +kernel
theorem dX12_value_117 : decode cX12_value 117 = .ok (.iload 4, 2) := by decide +kernel
theorem dX12_value_119 : decode cX12_value 119 = .ok (.iaload, 1) := by decide +kernel
theorem dX12_value_120 : decode cX12_value 120 = .ok (.iconst 3, 1) := by decide +kernel
theorem dX12_value_121 : decode cX12_value 121 = .ok (.if_icmp .ne 11, 3) := by decide +kernel
theorem dX12_value_124 : decode cX12_value 124 = .ok (.iload 5, 2) := by decide +kernel
theorem dX12_value_126 : decode cX12_value 126 = .ok (.iload 6, 2) := by decide +kernel
theorem dX12_value_128 : decode cX12_value 128 = .ok (.isub, 1) := by decide +kernel
theorem dX12_value_129 : decode cX12_value 129 = .ok (.goto 8, 3) := by decide +kernel
theorem dX12_value_132 : decode cX12_value 132 = .ok (.iload 5, 2) := by decide +kernel
theorem dX12_value_134 : decode cX12_value 134 = .ok (.iload 6, 2) := by decide +kernel
theorem dX12_value_136 : decode cX12_value 136 = .ok (.imul, 1) := by decide +kernel
theorem dX12_value_137 : decode cX12_value 137 = .ok (.iastore, 1) := by decide +kernel
theorem dX12_value_138 : decode cX12_value 138 = .ok (.iinc 4 1, 3) := by decide +kernel
theorem dX12_value_141 : decode cX12_value 141 = .ok (.goto (-136), 3) := by decide +kernel
theorem dX12_value_144 : decode cX12_value 144 = .ok (.aload_n 0, 1) := by decide +kernel
theorem dX12_value_145 : decode cX12_value 145 = .ok (.getfield 137, 3) := by decide +kernel
theorem dX12_value_148 : decode cX12_value 148 = .ok (.iconst 0, 1) := by decide +kernel
theorem dX12_value_149 : decode cX12_value 149 = .ok (.iaload, 1) := by decide +kernel
theorem dX12_value_150 : decode cX12_value 150 = .ok (.ireturn, 1) := by decide +kernel
theorem dX12_holds_0 : decode cX12_holds 0 = .ok (.aload_n 0, 1) := by decide +kernel
theorem dX12_holds_1 : decode cX12_holds 1 = .ok (.getfield 55, 3) := by decide +kernel
theorem dX12_holds_4 : decode cX12_holds 4 = .ok (.iload_n 1, 1) := by decide +kernel
theorem dX12_holds_5 : decode cX12_holds 5 = .ok (.iaload, 1) := by decide +kernel
theorem dX12_holds_6 : decode cX12_holds 6 = .ok (.aload_n 0, 1) := by decide +kernel
theorem dX12_holds_7 : decode cX12_holds 7 = .ok (.getfield 58, 3) := by decide +kernel
theorem dX12_holds_10 : decode cX12_holds 10 = .ok (.iload_n 1, 1) := by decide +kernel
theorem dX12_holds_11 : decode cX12_holds 11 = .ok (.iaload, 1) := by decide +kernel
theorem dX12_holds_12 : decode cX12_holds 12 = .ok (.if_icmp .ne 5, 3) := by decide +kernel
theorem dX12_holds_15 : decode cX12_holds 15 = .ok (.iconst 1, 1) := by decide +kernel
theorem dX12_holds_16 : decode cX12_holds 16 = .ok (.ireturn, 1) := by decide +kernel
theorem dX12_holds_17 : decode cX12_holds 17 = .ok (.iconst 0, 1) := by decide +kernel
theorem dX12_holds_18 : decode cX12_holds 18 = .ok (.istore_n 3, 1) := by decide +kernel
theorem dX12_holds_19 : decode cX12_holds 19 = .ok (.aload_n 0, 1) := by decide +kernel
theorem dX12_holds_20 : decode cX12_holds 20 = .ok (.getfield 55, 3) := by decide +kernel
theorem dX12_holds_23 : decode cX12_holds 23 = .ok (.iload_n 1, 1) := by decide +kernel
theorem dX12_holds_24 : decode cX12_holds 24 = .ok (.iaload, 1) := by decide +kernel
theorem dX12_holds_25 : decode cX12_holds 25 = .ok (.istore 4, 2) := by decide +kernel
theorem dX12_holds_27 : decode cX12_holds 27 = .ok (.iload 4, 2) := by decide +kernel
theorem dX12_holds_29 : decode cX12_holds 29 = .ok (.aload_n 0, 1) := by decide +kernel
theorem dX12_holds_30 : decode cX12_holds 30 = .ok (.getfield 58, 3) := by decide +kernel
theorem dX12_holds_33 : decode cX12_holds 33 = .ok (.iload_n 1, 1) := by decide +kernel
theorem dX12_holds_34 : decode cX12_holds 34 = .ok (.iaload, 1) := by decide +kernel
theorem dX12_holds_35 : decode cX12_holds 35 = .ok (.if_icmp .ge 184, 3) := by decide +kernel
theorem dX12_holds_38 : decode cX12_holds 38 = .ok (.sipush 200, 3) := by decide +kernel
theorem dX12_holds_41 : decode cX12_holds 41 = .ok (.iload_n 2, 1) := by decide +kernel
theorem dX12_holds_42 : decode cX12_holds 42 = .ok (.imul, 1) := by decide +kernel
theorem dX12_holds_43 : decode cX12_holds 43 = .ok (.iload 4, 2) := by decide +kernel
theorem dX12_holds_45 : decode cX12_holds 45 = .ok (.iadd, 1) := by decide +kernel
theorem dX12_holds_46 : decode cX12_holds 46 = .ok (.istore 5, 2) := by decide +kernel
theorem dX12_holds_48 : decode cX12_holds 48 = .ok (.aload_n 0, 1) := by decide +kernel
theorem dX12_holds_49 : decode cX12_holds 49 = .ok (.getfield 76, 3) := by decide +kernel
theorem dX12_holds_52 : decode cX12_holds 52 = .ok (.iload 5, 2) := by decide +kernel
theorem dX12_holds_54 : decode cX12_holds 54 = .ok (.baload, 1) := by decide +kernel
theorem dX12_holds_55 : decode cX12_holds 55 = .ok (.ifCond .eq 9, 3) := by decide +kernel
theorem dX12_holds_58 : decode cX12_holds 58 = .ok (.iload_n 3, 1) := by decide +kernel
theorem dX12_holds_59 : decode cX12_holds 59 = .ok (.ifCond .eq 5, 3) := by decide +kernel
theorem dX12_holds_62 : decode cX12_holds 62 = .ok (.iconst 1, 1) := by decide +kernel
theorem dX12_holds_63 : decode cX12_holds 63 = .ok (.ireturn, 1) := by decide +kernel
theorem dX12_holds_64 : decode cX12_holds 64 = .ok (.aload_n 0, 1) := by decide +kernel
theorem dX12_holds_65 : decode cX12_holds 65 = .ok (.getfield 76, 3) := by decide +kernel
theorem dX12_holds_68 : decode cX12_holds 68 = .ok (.iload 5, 2) := by decide +kernel
theorem dX12_holds_70 : decode cX12_holds 70 = .ok (.baload, 1) := by decide +kernel
theorem dX12_holds_71 : decode cX12_holds 71 = .ok (.ifCond .eq 5, 3) := by decide +kernel
theorem dX12_holds_74 : decode cX12_holds 74 = .ok (.iconst 1, 1) := by decide +kernel
theorem dX12_holds_75 : decode cX12_holds 75 = .ok (.istore_n 3, 1) := by decide +kernel
theorem dX12_holds_76 : decode cX12_holds 76 = .ok (.iload_n 3, 1) := by decide +kernel
theorem dX12_holds_77 : decode cX12_holds 77 = .ok (.ifCond .ne 6, 3) := by decide +kernel
theorem dX12_holds_80 : decode cX12_holds 80 = .ok (.goto 133, 3) := by decide +kernel
theorem dX12_holds_83 : decode cX12_holds 83 = .ok (.aload_n 0, 1) := by decide +kernel
theorem dX12_holds_84 : decode cX12_holds 84 = .ok (.aload_n 0, 1) := by decide +kernel
theorem dX12_holds_85 : decode cX12_holds 85 = .ok (.getfield 67, 3) := by decide +kernel
theorem dX12_holds_88 : decode cX12_holds 88 = .ok (.iload 5, 2) := by decide +kernel
theorem dX12_holds_90 : decode cX12_holds 90 = .ok (.iaload, 1) := by decide +kernel
theorem dX12_holds_91 : decode cX12_holds 91 = .ok (.aload_n 0, 1) := by decide +kernel
theorem dX12_holds_92 : decode cX12_holds 92 = .ok (.getfield 70, 3) := by decide +kernel
theorem dX12_holds_95 : decode cX12_holds 95 = .ok (.iload 5, 2) := by decide +kernel
theorem dX12_holds_97 : decode cX12_holds 97 = .ok (.iaload, 1) := by decide +kernel
theorem dX12_holds_98 : decode cX12_holds 98 = .ok (.invokevirtual 329, 3) := by decide +kernel
theorem dX12_holds_101 : decode cX12_holds 101 = .ok (.istore 6, 2) := by decide +kernel
theorem dX12_holds_103 : decode cX12_holds 103 = .ok (.aload_n 0, 1) := by decide +kernel
theorem dX12_holds_104 : decode cX12_holds 104 = .ok (.aload_n 0, 1) := by decide +kernel
theorem dX12_holds_105 : decode cX12_holds 105 = .ok (.getfield 70, 3) := by decide +kernel
theorem dX12_holds_108 : decode cX12_holds 108 = .ok (.iload 5, 2) := by decide +kernel
theorem dX12_holds_110 : decode cX12_holds 110 = .ok (.iaload, 1) := by decide +kernel
theorem dX12_holds_111 : decode cX12_holds 111 = .ok (.aload_n 0, 1) := by decide +kernel
theorem dX12_holds_112 : decode cX12_holds 112 = .ok (.getfield 73, 3) := by decide +kernel
theorem dX12_holds_115 : decode cX12_holds 115 = .ok (.iload 5, 2) := by decide +kernel
theorem dX12_holds_117 : decode cX12_holds 117 = .ok (.iaload, 1) := by decide +kernel
theorem dX12_holds_118 : decode cX12_holds 118 = .ok (.invokevirtual 329, 3) := by decide +kernel
theorem dX12_holds_121 : decode cX12_holds 121 = .ok (.istore 7, 2) := by decide +kernel
theorem dX12_holds_123 : decode cX12_holds 123 = .ok (.aload_n 0, 1) := by decide +kernel
theorem dX12_holds_124 : decode cX12_holds 124 = .ok (.getfield 64, 3) := by decide +kernel
theorem dX12_holds_127 : decode cX12_holds 127 = .ok (.iload 5, 2) := by decide +kernel
theorem dX12_holds_129 : decode cX12_holds 129 = .ok (.iaload, 1) := by decide +kernel
theorem dX12_holds_130 : decode cX12_holds 130 = .ok (.ifCond .ne 18, 3) := by decide +kernel
theorem dX12_holds_133 : decode cX12_holds 133 = .ok (.iload 6, 2) := by decide +kernel
theorem dX12_holds_135 : decode cX12_holds 135 = .ok (.iload 7, 2) := by decide +kernel
