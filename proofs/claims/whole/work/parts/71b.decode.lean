/-! ===== the law, decoded ===== -/
theorem xr_456 : xd5 456 1 := by decide +kernel
theorem xd_461 : decode code 461 = .ok (.invokevirtual 53, 3) := by decide +kernel
theorem xd_464 : decode code 464 = .ok (.aload_n 2, 1) := by decide +kernel
theorem xr_465 : xd5 465 1 := by decide +kernel
theorem xd_470 : decode code 470 = .ok (.invokevirtual 56, 3) := by decide +kernel
theorem xd_473 : decode code 473 = .ok (.if_icmp .eq 707, 3) := by decide +kernel
theorem xd_476 : decode code 476 = .ok (.iconst 0, 1) := by decide +kernel
theorem xd_477 : decode code 477 = .ok (.ireturn, 1) := by decide +kernel
theorem xd_478 : decode code 478 = .ok (.aload_n 1, 1) := by decide +kernel
theorem xr_479 : xd5 479 1 := by decide +kernel
theorem xd_484 : decode code 484 = .ok (.invokevirtual 57, 3) := by decide +kernel
theorem xd_487 : decode code 487 = .ok (.aload_n 2, 1) := by decide +kernel
theorem xr_488 : xd5 488 1 := by decide +kernel
theorem xd_493 : decode code 493 = .ok (.invokevirtual 60, 3) := by decide +kernel
theorem xd_496 : decode code 496 = .ok (.if_icmp .eq 684, 3) := by decide +kernel
theorem xd_499 : decode code 499 = .ok (.iconst 0, 1) := by decide +kernel
theorem xd_500 : decode code 500 = .ok (.ireturn, 1) := by decide +kernel
theorem xd_501 : decode code 501 = .ok (.aload_n 1, 1) := by decide +kernel
theorem xr_502 : xd5 502 1 := by decide +kernel
theorem xd_507 : decode code 507 = .ok (.invokevirtual 61, 3) := by decide +kernel
theorem xd_510 : decode code 510 = .ok (.aload_n 2, 1) := by decide +kernel
theorem xr_511 : xd5 511 1 := by decide +kernel
theorem xd_516 : decode code 516 = .ok (.invokevirtual 64, 3) := by decide +kernel
theorem xd_519 : decode code 519 = .ok (.if_icmp .eq 661, 3) := by decide +kernel
theorem xd_522 : decode code 522 = .ok (.iconst 0, 1) := by decide +kernel
theorem xd_523 : decode code 523 = .ok (.ireturn, 1) := by decide +kernel
theorem xd_524 : decode code 524 = .ok (.aload_n 1, 1) := by decide +kernel
theorem xr_525 : xd5 525 1 := by decide +kernel
theorem xr_530 : xd5 530 2 := by decide +kernel
theorem xd_535 : decode code 535 = .ok (.invokevirtual 65, 3) := by decide +kernel
theorem xd_538 : decode code 538 = .ok (.aload_n 2, 1) := by decide +kernel
theorem xr_539 : xd5 539 1 := by decide +kernel
theorem xr_544 : xd5 544 2 := by decide +kernel
theorem xd_549 : decode code 549 = .ok (.invokevirtual 68, 3) := by decide +kernel
theorem xd_552 : decode code 552 = .ok (.if_icmp .eq 628, 3) := by decide +kernel
theorem xd_555 : decode code 555 = .ok (.iconst 0, 1) := by decide +kernel
theorem xd_556 : decode code 556 = .ok (.ireturn, 1) := by decide +kernel
theorem xd_557 : decode code 557 = .ok (.aload_n 1, 1) := by decide +kernel
theorem xr_558 : xd5 558 1 := by decide +kernel
theorem xd_563 : decode code 563 = .ok (.invokevirtual 69, 3) := by decide +kernel
theorem xd_566 : decode code 566 = .ok (.aload_n 2, 1) := by decide +kernel
theorem xr_567 : xd5 567 1 := by decide +kernel
theorem xd_572 : decode code 572 = .ok (.invokevirtual 72, 3) := by decide +kernel
theorem xd_575 : decode code 575 = .ok (.if_icmp .eq 605, 3) := by decide +kernel
theorem xd_578 : decode code 578 = .ok (.iconst 0, 1) := by decide +kernel
theorem xd_579 : decode code 579 = .ok (.ireturn, 1) := by decide +kernel
theorem xd_580 : decode code 580 = .ok (.aload_n 1, 1) := by decide +kernel
theorem xd_581 : decode code 581 = .ok (.invokevirtual 73, 3) := by decide +kernel
theorem xd_584 : decode code 584 = .ok (.aload_n 2, 1) := by decide +kernel
theorem xd_585 : decode code 585 = .ok (.invokevirtual 76, 3) := by decide +kernel
theorem xd_588 : decode code 588 = .ok (.if_icmp .eq 592, 3) := by decide +kernel
theorem xd_591 : decode code 591 = .ok (.iconst 0, 1) := by decide +kernel
theorem xd_592 : decode code 592 = .ok (.ireturn, 1) := by decide +kernel
theorem xd_593 : decode code 593 = .ok (.aload_n 1, 1) := by decide +kernel
theorem xr_594 : xd5 594 1 := by decide +kernel
theorem xd_599 : decode code 599 = .ok (.invokevirtual 77, 3) := by decide +kernel
theorem xd_602 : decode code 602 = .ok (.aload_n 2, 1) := by decide +kernel
theorem xr_603 : xd5 603 1 := by decide +kernel
theorem xd_608 : decode code 608 = .ok (.invokevirtual 80, 3) := by decide +kernel
theorem xd_611 : decode code 611 = .ok (.if_icmp .eq 569, 3) := by decide +kernel
theorem xd_614 : decode code 614 = .ok (.iconst 0, 1) := by decide +kernel
theorem xd_615 : decode code 615 = .ok (.ireturn, 1) := by decide +kernel
theorem xd_616 : decode code 616 = .ok (.aload_n 1, 1) := by decide +kernel
theorem xr_617 : xd5 617 1 := by decide +kernel
theorem xr_622 : xd5 622 2 := by decide +kernel
theorem xd_627 : decode code 627 = .ok (.invokevirtual 81, 3) := by decide +kernel
theorem xd_630 : decode code 630 = .ok (.aload_n 2, 1) := by decide +kernel
theorem xr_631 : xd5 631 1 := by decide +kernel
theorem xr_636 : xd5 636 2 := by decide +kernel
theorem xd_641 : decode code 641 = .ok (.invokevirtual 84, 3) := by decide +kernel
theorem xd_644 : decode code 644 = .ok (.if_icmp .eq 536, 3) := by decide +kernel
theorem xd_647 : decode code 647 = .ok (.iconst 0, 1) := by decide +kernel
theorem xd_648 : decode code 648 = .ok (.ireturn, 1) := by decide +kernel
theorem xd_649 : decode code 649 = .ok (.aload_n 1, 1) := by decide +kernel
theorem xr_650 : xd5 650 1 := by decide +kernel
theorem xr_655 : xd5 655 2 := by decide +kernel
theorem xd_660 : decode code 660 = .ok (.invokevirtual 85, 3) := by decide +kernel
theorem xd_663 : decode code 663 = .ok (.aload_n 2, 1) := by decide +kernel
theorem xr_664 : xd5 664 1 := by decide +kernel
theorem xr_669 : xd5 669 2 := by decide +kernel
theorem xd_674 : decode code 674 = .ok (.invokevirtual 88, 3) := by decide +kernel
theorem xd_677 : decode code 677 = .ok (.if_icmp .eq 503, 3) := by decide +kernel
theorem xd_680 : decode code 680 = .ok (.iconst 0, 1) := by decide +kernel
theorem xd_681 : decode code 681 = .ok (.ireturn, 1) := by decide +kernel
theorem xd_682 : decode code 682 = .ok (.aload_n 1, 1) := by decide +kernel
theorem xd_683 : decode code 683 = .ok (.invokevirtual 89, 3) := by decide +kernel
theorem xd_686 : decode code 686 = .ok (.aload_n 2, 1) := by decide +kernel
theorem xd_687 : decode code 687 = .ok (.invokevirtual 92, 3) := by decide +kernel
theorem xd_690 : decode code 690 = .ok (.if_icmp .eq 490, 3) := by decide +kernel
theorem xd_693 : decode code 693 = .ok (.iconst 0, 1) := by decide +kernel
theorem xd_694 : decode code 694 = .ok (.ireturn, 1) := by decide +kernel
theorem xd_695 : decode code 695 = .ok (.aload_n 1, 1) := by decide +kernel
theorem xr_696 : xd5 696 1 := by decide +kernel
theorem xr_701 : xd5 701 2 := by decide +kernel
theorem xr_706 : xd5 706 3 := by decide +kernel
theorem xd_711 : decode code 711 = .ok (.invokevirtual 93, 3) := by decide +kernel
theorem xd_714 : decode code 714 = .ok (.aload_n 2, 1) := by decide +kernel
theorem xr_715 : xd5 715 1 := by decide +kernel
theorem xr_720 : xd5 720 2 := by decide +kernel
theorem xr_725 : xd5 725 3 := by decide +kernel
theorem xd_730 : decode code 730 = .ok (.invokevirtual 97, 3) := by decide +kernel
theorem xd_733 : decode code 733 = .ok (.if_icmp .eq 447, 3) := by decide +kernel
theorem xd_736 : decode code 736 = .ok (.iconst 0, 1) := by decide +kernel
theorem xd_737 : decode code 737 = .ok (.ireturn, 1) := by decide +kernel
theorem xd_738 : decode code 738 = .ok (.aload_n 1, 1) := by decide +kernel
theorem xr_739 : xd5 739 1 := by decide +kernel
theorem xr_744 : xd5 744 2 := by decide +kernel
theorem xd_749 : decode code 749 = .ok (.invokevirtual 98, 3) := by decide +kernel
theorem xd_752 : decode code 752 = .ok (.aload_n 2, 1) := by decide +kernel
theorem xr_753 : xd5 753 1 := by decide +kernel
theorem xr_758 : xd5 758 2 := by decide +kernel
theorem xd_763 : decode code 763 = .ok (.invokevirtual 101, 3) := by decide +kernel
theorem xd_766 : decode code 766 = .ok (.if_icmp .eq 414, 3) := by decide +kernel
theorem xd_769 : decode code 769 = .ok (.iconst 0, 1) := by decide +kernel
theorem xd_770 : decode code 770 = .ok (.ireturn, 1) := by decide +kernel
theorem xd_771 : decode code 771 = .ok (.aload_n 1, 1) := by decide +kernel
theorem xr_772 : xd5 772 1 := by decide +kernel
theorem xr_777 : xd5 777 2 := by decide +kernel
theorem xd_782 : decode code 782 = .ok (.invokevirtual 102, 3) := by decide +kernel
theorem xd_785 : decode code 785 = .ok (.aload_n 2, 1) := by decide +kernel
