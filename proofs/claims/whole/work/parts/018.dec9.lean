theorem d_ZoneNodesLaw_law_500 : decode b_ZoneNodesLaw_law 500 = .ok (.iload_n 3, 1) := by decide +kernel
theorem d_ZoneNodesLaw_law_501 : decode b_ZoneNodesLaw_law 501 = .ok (.iconst 1, 1) := by decide +kernel
theorem d_ZoneNodesLaw_law_502 : decode b_ZoneNodesLaw_law 502 = .ok (.iadd, 1) := by decide +kernel
theorem d_ZoneNodesLaw_law_503 : decode b_ZoneNodesLaw_law 503 = .ok (.iaload, 1) := by decide +kernel
theorem d_ZoneNodesLaw_law_504 : decode b_ZoneNodesLaw_law 504 = .ok (.invokevirtual 66, 3) := by decide +kernel
theorem d_ZoneNodesLaw_law_507 : decode b_ZoneNodesLaw_law 507 = .ok (.aload_n 2, 1) := by decide +kernel
theorem d_ZoneNodesLaw_law_508 : decode b_ZoneNodesLaw_law 508 = .ok (.aload_n 0, 1) := by decide +kernel
theorem d_ZoneNodesLaw_law_509 : decode b_ZoneNodesLaw_law 509 = .ok (.iload_n 3, 1) := by decide +kernel
theorem d_ZoneNodesLaw_law_510 : decode b_ZoneNodesLaw_law 510 = .ok (.iconst 1, 1) := by decide +kernel
theorem d_ZoneNodesLaw_law_511 : decode b_ZoneNodesLaw_law 511 = .ok (.iadd, 1) := by decide +kernel
theorem d_ZoneNodesLaw_law_512 : decode b_ZoneNodesLaw_law 512 = .ok (.iaload, 1) := by decide +kernel
theorem d_ZoneNodesLaw_law_513 : decode b_ZoneNodesLaw_law 513 = .ok (.invokevirtual 69, 3) := by decide +kernel
theorem d_ZoneNodesLaw_law_516 : decode b_ZoneNodesLaw_law 516 = .ok (.if_icmp .eq 242, 3) := by decide +kernel
theorem d_ZoneNodesLaw_law_519 : decode b_ZoneNodesLaw_law 519 = .ok (.iconst 0, 1) := by decide +kernel
theorem d_ZoneNodesLaw_law_520 : decode b_ZoneNodesLaw_law 520 = .ok (.ireturn, 1) := by decide +kernel
theorem d_ZoneNodesLaw_law_521 : decode b_ZoneNodesLaw_law 521 = .ok (.aload_n 1, 1) := by decide +kernel
theorem d_ZoneNodesLaw_law_522 : decode b_ZoneNodesLaw_law 522 = .ok (.aload_n 0, 1) := by decide +kernel
theorem d_ZoneNodesLaw_law_523 : decode b_ZoneNodesLaw_law 523 = .ok (.iload_n 3, 1) := by decide +kernel
theorem d_ZoneNodesLaw_law_524 : decode b_ZoneNodesLaw_law 524 = .ok (.iconst 1, 1) := by decide +kernel
theorem d_ZoneNodesLaw_law_525 : decode b_ZoneNodesLaw_law 525 = .ok (.iadd, 1) := by decide +kernel
theorem d_ZoneNodesLaw_law_526 : decode b_ZoneNodesLaw_law 526 = .ok (.iaload, 1) := by decide +kernel
theorem d_ZoneNodesLaw_law_527 : decode b_ZoneNodesLaw_law 527 = .ok (.invokevirtual 70, 3) := by decide +kernel
theorem d_ZoneNodesLaw_law_530 : decode b_ZoneNodesLaw_law 530 = .ok (.aload_n 2, 1) := by decide +kernel
theorem d_ZoneNodesLaw_law_531 : decode b_ZoneNodesLaw_law 531 = .ok (.aload_n 0, 1) := by decide +kernel
theorem d_ZoneNodesLaw_law_532 : decode b_ZoneNodesLaw_law 532 = .ok (.iload_n 3, 1) := by decide +kernel
theorem d_ZoneNodesLaw_law_533 : decode b_ZoneNodesLaw_law 533 = .ok (.iconst 1, 1) := by decide +kernel
theorem d_ZoneNodesLaw_law_534 : decode b_ZoneNodesLaw_law 534 = .ok (.iadd, 1) := by decide +kernel
theorem d_ZoneNodesLaw_law_535 : decode b_ZoneNodesLaw_law 535 = .ok (.iaload, 1) := by decide +kernel
theorem d_ZoneNodesLaw_law_536 : decode b_ZoneNodesLaw_law 536 = .ok (.invokevirtual 73, 3) := by decide +kernel
theorem d_ZoneNodesLaw_law_539 : decode b_ZoneNodesLaw_law 539 = .ok (.if_icmp .eq 219, 3) := by decide +kernel
theorem d_ZoneNodesLaw_law_542 : decode b_ZoneNodesLaw_law 542 = .ok (.iconst 0, 1) := by decide +kernel
theorem d_ZoneNodesLaw_law_543 : decode b_ZoneNodesLaw_law 543 = .ok (.ireturn, 1) := by decide +kernel
theorem d_ZoneNodesLaw_law_544 : decode b_ZoneNodesLaw_law 544 = .ok (.aload_n 1, 1) := by decide +kernel
theorem d_ZoneNodesLaw_law_545 : decode b_ZoneNodesLaw_law 545 = .ok (.invokevirtual 74, 3) := by decide +kernel
theorem d_ZoneNodesLaw_law_548 : decode b_ZoneNodesLaw_law 548 = .ok (.aload_n 2, 1) := by decide +kernel
theorem d_ZoneNodesLaw_law_549 : decode b_ZoneNodesLaw_law 549 = .ok (.invokevirtual 78, 3) := by decide +kernel
theorem d_ZoneNodesLaw_law_552 : decode b_ZoneNodesLaw_law 552 = .ok (.if_icmp .eq 206, 3) := by decide +kernel
theorem d_ZoneNodesLaw_law_555 : decode b_ZoneNodesLaw_law 555 = .ok (.iconst 0, 1) := by decide +kernel
theorem d_ZoneNodesLaw_law_556 : decode b_ZoneNodesLaw_law 556 = .ok (.ireturn, 1) := by decide +kernel
theorem d_ZoneNodesLaw_law_557 : decode b_ZoneNodesLaw_law 557 = .ok (.aload_n 1, 1) := by decide +kernel
theorem d_ZoneNodesLaw_law_558 : decode b_ZoneNodesLaw_law 558 = .ok (.aload_n 0, 1) := by decide +kernel
theorem d_ZoneNodesLaw_law_559 : decode b_ZoneNodesLaw_law 559 = .ok (.iload_n 3, 1) := by decide +kernel
theorem d_ZoneNodesLaw_law_560 : decode b_ZoneNodesLaw_law 560 = .ok (.iconst 1, 1) := by decide +kernel
theorem d_ZoneNodesLaw_law_561 : decode b_ZoneNodesLaw_law 561 = .ok (.iadd, 1) := by decide +kernel
theorem d_ZoneNodesLaw_law_562 : decode b_ZoneNodesLaw_law 562 = .ok (.iaload, 1) := by decide +kernel
theorem d_ZoneNodesLaw_law_563 : decode b_ZoneNodesLaw_law 563 = .ok (.invokevirtual 79, 3) := by decide +kernel
theorem d_ZoneNodesLaw_law_566 : decode b_ZoneNodesLaw_law 566 = .ok (.aload_n 2, 1) := by decide +kernel
theorem d_ZoneNodesLaw_law_567 : decode b_ZoneNodesLaw_law 567 = .ok (.aload_n 0, 1) := by decide +kernel
theorem d_ZoneNodesLaw_law_568 : decode b_ZoneNodesLaw_law 568 = .ok (.iload_n 3, 1) := by decide +kernel
theorem d_ZoneNodesLaw_law_569 : decode b_ZoneNodesLaw_law 569 = .ok (.iconst 1, 1) := by decide +kernel
theorem d_ZoneNodesLaw_law_570 : decode b_ZoneNodesLaw_law 570 = .ok (.iadd, 1) := by decide +kernel
theorem d_ZoneNodesLaw_law_571 : decode b_ZoneNodesLaw_law 571 = .ok (.iaload, 1) := by decide +kernel
theorem d_ZoneNodesLaw_law_572 : decode b_ZoneNodesLaw_law 572 = .ok (.invokevirtual 83, 3) := by decide +kernel
theorem d_ZoneNodesLaw_law_575 : decode b_ZoneNodesLaw_law 575 = .ok (.if_icmp .eq 183, 3) := by decide +kernel
theorem d_ZoneNodesLaw_law_578 : decode b_ZoneNodesLaw_law 578 = .ok (.iconst 0, 1) := by decide +kernel
theorem d_ZoneNodesLaw_law_579 : decode b_ZoneNodesLaw_law 579 = .ok (.ireturn, 1) := by decide +kernel
theorem d_ZoneNodesLaw_law_580 : decode b_ZoneNodesLaw_law 580 = .ok (.aload_n 1, 1) := by decide +kernel
theorem d_ZoneNodesLaw_law_581 : decode b_ZoneNodesLaw_law 581 = .ok (.aload_n 0, 1) := by decide +kernel
theorem d_ZoneNodesLaw_law_582 : decode b_ZoneNodesLaw_law 582 = .ok (.iload_n 3, 1) := by decide +kernel
theorem d_ZoneNodesLaw_law_583 : decode b_ZoneNodesLaw_law 583 = .ok (.iconst 1, 1) := by decide +kernel
theorem d_ZoneNodesLaw_law_584 : decode b_ZoneNodesLaw_law 584 = .ok (.iadd, 1) := by decide +kernel
theorem d_ZoneNodesLaw_law_585 : decode b_ZoneNodesLaw_law 585 = .ok (.iaload, 1) := by decide +kernel
theorem d_ZoneNodesLaw_law_586 : decode b_ZoneNodesLaw_law 586 = .ok (.invokevirtual 84, 3) := by decide +kernel
theorem d_ZoneNodesLaw_law_589 : decode b_ZoneNodesLaw_law 589 = .ok (.aload_n 2, 1) := by decide +kernel
theorem d_ZoneNodesLaw_law_590 : decode b_ZoneNodesLaw_law 590 = .ok (.aload_n 0, 1) := by decide +kernel
theorem d_ZoneNodesLaw_law_591 : decode b_ZoneNodesLaw_law 591 = .ok (.iload_n 3, 1) := by decide +kernel
theorem d_ZoneNodesLaw_law_592 : decode b_ZoneNodesLaw_law 592 = .ok (.iconst 1, 1) := by decide +kernel
theorem d_ZoneNodesLaw_law_593 : decode b_ZoneNodesLaw_law 593 = .ok (.iadd, 1) := by decide +kernel
theorem d_ZoneNodesLaw_law_594 : decode b_ZoneNodesLaw_law 594 = .ok (.iaload, 1) := by decide +kernel
theorem d_ZoneNodesLaw_law_595 : decode b_ZoneNodesLaw_law 595 = .ok (.invokevirtual 87, 3) := by decide +kernel
theorem d_ZoneNodesLaw_law_598 : decode b_ZoneNodesLaw_law 598 = .ok (.if_icmp .eq 160, 3) := by decide +kernel
theorem d_ZoneNodesLaw_law_601 : decode b_ZoneNodesLaw_law 601 = .ok (.iconst 0, 1) := by decide +kernel
theorem d_ZoneNodesLaw_law_602 : decode b_ZoneNodesLaw_law 602 = .ok (.ireturn, 1) := by decide +kernel
theorem d_ZoneNodesLaw_law_603 : decode b_ZoneNodesLaw_law 603 = .ok (.aload_n 1, 1) := by decide +kernel
theorem d_ZoneNodesLaw_law_604 : decode b_ZoneNodesLaw_law 604 = .ok (.aload_n 0, 1) := by decide +kernel
theorem d_ZoneNodesLaw_law_605 : decode b_ZoneNodesLaw_law 605 = .ok (.iload_n 3, 1) := by decide +kernel
theorem d_ZoneNodesLaw_law_606 : decode b_ZoneNodesLaw_law 606 = .ok (.iconst 1, 1) := by decide +kernel
theorem d_ZoneNodesLaw_law_607 : decode b_ZoneNodesLaw_law 607 = .ok (.iadd, 1) := by decide +kernel
theorem d_ZoneNodesLaw_law_608 : decode b_ZoneNodesLaw_law 608 = .ok (.iaload, 1) := by decide +kernel
theorem d_ZoneNodesLaw_law_609 : decode b_ZoneNodesLaw_law 609 = .ok (.invokevirtual 88, 3) := by decide +kernel
theorem d_ZoneNodesLaw_law_612 : decode b_ZoneNodesLaw_law 612 = .ok (.aload_n 2, 1) := by decide +kernel
theorem d_ZoneNodesLaw_law_613 : decode b_ZoneNodesLaw_law 613 = .ok (.aload_n 0, 1) := by decide +kernel
theorem d_ZoneNodesLaw_law_614 : decode b_ZoneNodesLaw_law 614 = .ok (.iload_n 3, 1) := by decide +kernel
theorem d_ZoneNodesLaw_law_615 : decode b_ZoneNodesLaw_law 615 = .ok (.iconst 1, 1) := by decide +kernel
theorem d_ZoneNodesLaw_law_616 : decode b_ZoneNodesLaw_law 616 = .ok (.iadd, 1) := by decide +kernel
theorem d_ZoneNodesLaw_law_617 : decode b_ZoneNodesLaw_law 617 = .ok (.iaload, 1) := by decide +kernel
theorem d_ZoneNodesLaw_law_618 : decode b_ZoneNodesLaw_law 618 = .ok (.invokevirtual 91, 3) := by decide +kernel
theorem d_ZoneNodesLaw_law_621 : decode b_ZoneNodesLaw_law 621 = .ok (.if_icmp .eq 137, 3) := by decide +kernel
theorem d_ZoneNodesLaw_law_624 : decode b_ZoneNodesLaw_law 624 = .ok (.iconst 0, 1) := by decide +kernel
theorem d_ZoneNodesLaw_law_625 : decode b_ZoneNodesLaw_law 625 = .ok (.ireturn, 1) := by decide +kernel
theorem d_ZoneNodesLaw_law_626 : decode b_ZoneNodesLaw_law 626 = .ok (.aload_n 1, 1) := by decide +kernel
theorem d_ZoneNodesLaw_law_627 : decode b_ZoneNodesLaw_law 627 = .ok (.aload_n 0, 1) := by decide +kernel
theorem d_ZoneNodesLaw_law_628 : decode b_ZoneNodesLaw_law 628 = .ok (.iload_n 3, 1) := by decide +kernel
theorem d_ZoneNodesLaw_law_629 : decode b_ZoneNodesLaw_law 629 = .ok (.iconst 1, 1) := by decide +kernel
theorem d_ZoneNodesLaw_law_630 : decode b_ZoneNodesLaw_law 630 = .ok (.iadd, 1) := by decide +kernel
theorem d_ZoneNodesLaw_law_631 : decode b_ZoneNodesLaw_law 631 = .ok (.iaload, 1) := by decide +kernel
theorem d_ZoneNodesLaw_law_632 : decode b_ZoneNodesLaw_law 632 = .ok (.aload_n 0, 1) := by decide +kernel
theorem d_ZoneNodesLaw_law_633 : decode b_ZoneNodesLaw_law 633 = .ok (.iload_n 3, 1) := by decide +kernel
theorem d_ZoneNodesLaw_law_634 : decode b_ZoneNodesLaw_law 634 = .ok (.iconst 2, 1) := by decide +kernel
theorem d_ZoneNodesLaw_law_635 : decode b_ZoneNodesLaw_law 635 = .ok (.iadd, 1) := by decide +kernel
theorem d_ZoneNodesLaw_law_636 : decode b_ZoneNodesLaw_law 636 = .ok (.iaload, 1) := by decide +kernel
theorem d_ZoneNodesLaw_law_637 : decode b_ZoneNodesLaw_law 637 = .ok (.aload_n 0, 1) := by decide +kernel
theorem d_ZoneNodesLaw_law_638 : decode b_ZoneNodesLaw_law 638 = .ok (.iload_n 3, 1) := by decide +kernel
theorem d_ZoneNodesLaw_law_639 : decode b_ZoneNodesLaw_law 639 = .ok (.iconst 3, 1) := by decide +kernel
theorem d_ZoneNodesLaw_law_640 : decode b_ZoneNodesLaw_law 640 = .ok (.iadd, 1) := by decide +kernel
theorem d_ZoneNodesLaw_law_641 : decode b_ZoneNodesLaw_law 641 = .ok (.iaload, 1) := by decide +kernel
theorem d_ZoneNodesLaw_law_642 : decode b_ZoneNodesLaw_law 642 = .ok (.aload_n 0, 1) := by decide +kernel
theorem d_ZoneNodesLaw_law_643 : decode b_ZoneNodesLaw_law 643 = .ok (.iload_n 3, 1) := by decide +kernel
theorem d_ZoneNodesLaw_law_644 : decode b_ZoneNodesLaw_law 644 = .ok (.iconst 4, 1) := by decide +kernel
theorem d_ZoneNodesLaw_law_645 : decode b_ZoneNodesLaw_law 645 = .ok (.iadd, 1) := by decide +kernel
theorem d_ZoneNodesLaw_law_646 : decode b_ZoneNodesLaw_law 646 = .ok (.iaload, 1) := by decide +kernel
theorem d_ZoneNodesLaw_law_647 : decode b_ZoneNodesLaw_law 647 = .ok (.invokevirtual 92, 3) := by decide +kernel
theorem d_ZoneNodesLaw_law_650 : decode b_ZoneNodesLaw_law 650 = .ok (.aload_n 2, 1) := by decide +kernel
theorem d_ZoneNodesLaw_law_651 : decode b_ZoneNodesLaw_law 651 = .ok (.aload_n 0, 1) := by decide +kernel
theorem d_ZoneNodesLaw_law_652 : decode b_ZoneNodesLaw_law 652 = .ok (.iload_n 3, 1) := by decide +kernel
theorem d_ZoneNodesLaw_law_653 : decode b_ZoneNodesLaw_law 653 = .ok (.iconst 1, 1) := by decide +kernel
theorem d_ZoneNodesLaw_law_654 : decode b_ZoneNodesLaw_law 654 = .ok (.iadd, 1) := by decide +kernel
theorem d_ZoneNodesLaw_law_655 : decode b_ZoneNodesLaw_law 655 = .ok (.iaload, 1) := by decide +kernel
theorem d_ZoneNodesLaw_law_656 : decode b_ZoneNodesLaw_law 656 = .ok (.aload_n 0, 1) := by decide +kernel
theorem d_ZoneNodesLaw_law_657 : decode b_ZoneNodesLaw_law 657 = .ok (.iload_n 3, 1) := by decide +kernel
theorem d_ZoneNodesLaw_law_658 : decode b_ZoneNodesLaw_law 658 = .ok (.iconst 2, 1) := by decide +kernel
theorem d_ZoneNodesLaw_law_659 : decode b_ZoneNodesLaw_law 659 = .ok (.iadd, 1) := by decide +kernel
theorem d_ZoneNodesLaw_law_660 : decode b_ZoneNodesLaw_law 660 = .ok (.iaload, 1) := by decide +kernel
theorem d_ZoneNodesLaw_law_661 : decode b_ZoneNodesLaw_law 661 = .ok (.aload_n 0, 1) := by decide +kernel
theorem d_ZoneNodesLaw_law_662 : decode b_ZoneNodesLaw_law 662 = .ok (.iload_n 3, 1) := by decide +kernel
theorem d_ZoneNodesLaw_law_663 : decode b_ZoneNodesLaw_law 663 = .ok (.iconst 3, 1) := by decide +kernel
theorem d_ZoneNodesLaw_law_664 : decode b_ZoneNodesLaw_law 664 = .ok (.iadd, 1) := by decide +kernel
theorem d_ZoneNodesLaw_law_665 : decode b_ZoneNodesLaw_law 665 = .ok (.iaload, 1) := by decide +kernel
theorem d_ZoneNodesLaw_law_666 : decode b_ZoneNodesLaw_law 666 = .ok (.aload_n 0, 1) := by decide +kernel
theorem d_ZoneNodesLaw_law_667 : decode b_ZoneNodesLaw_law 667 = .ok (.iload_n 3, 1) := by decide +kernel
theorem d_ZoneNodesLaw_law_668 : decode b_ZoneNodesLaw_law 668 = .ok (.iconst 4, 1) := by decide +kernel
theorem d_ZoneNodesLaw_law_669 : decode b_ZoneNodesLaw_law 669 = .ok (.iadd, 1) := by decide +kernel
theorem d_ZoneNodesLaw_law_670 : decode b_ZoneNodesLaw_law 670 = .ok (.iaload, 1) := by decide +kernel
theorem d_ZoneNodesLaw_law_671 : decode b_ZoneNodesLaw_law 671 = .ok (.invokevirtual 95, 3) := by decide +kernel
theorem d_ZoneNodesLaw_law_674 : decode b_ZoneNodesLaw_law 674 = .ok (.if_icmp .eq 84, 3) := by decide +kernel
theorem d_ZoneNodesLaw_law_677 : decode b_ZoneNodesLaw_law 677 = .ok (.iconst 0, 1) := by decide +kernel
theorem d_ZoneNodesLaw_law_678 : decode b_ZoneNodesLaw_law 678 = .ok (.ireturn, 1) := by decide +kernel
theorem d_ZoneNodesLaw_law_679 : decode b_ZoneNodesLaw_law 679 = .ok (.aload_n 1, 1) := by decide +kernel
theorem d_ZoneNodesLaw_law_680 : decode b_ZoneNodesLaw_law 680 = .ok (.aload_n 0, 1) := by decide +kernel
theorem d_ZoneNodesLaw_law_681 : decode b_ZoneNodesLaw_law 681 = .ok (.iload_n 3, 1) := by decide +kernel
theorem d_ZoneNodesLaw_law_682 : decode b_ZoneNodesLaw_law 682 = .ok (.iconst 1, 1) := by decide +kernel
theorem d_ZoneNodesLaw_law_683 : decode b_ZoneNodesLaw_law 683 = .ok (.iadd, 1) := by decide +kernel
theorem d_ZoneNodesLaw_law_684 : decode b_ZoneNodesLaw_law 684 = .ok (.iaload, 1) := by decide +kernel
theorem d_ZoneNodesLaw_law_685 : decode b_ZoneNodesLaw_law 685 = .ok (.aload_n 0, 1) := by decide +kernel
theorem d_ZoneNodesLaw_law_686 : decode b_ZoneNodesLaw_law 686 = .ok (.iload_n 3, 1) := by decide +kernel
theorem d_ZoneNodesLaw_law_687 : decode b_ZoneNodesLaw_law 687 = .ok (.iconst 2, 1) := by decide +kernel
theorem d_ZoneNodesLaw_law_688 : decode b_ZoneNodesLaw_law 688 = .ok (.iadd, 1) := by decide +kernel
theorem d_ZoneNodesLaw_law_689 : decode b_ZoneNodesLaw_law 689 = .ok (.iaload, 1) := by decide +kernel
theorem d_ZoneNodesLaw_law_690 : decode b_ZoneNodesLaw_law 690 = .ok (.aload_n 0, 1) := by decide +kernel
theorem d_ZoneNodesLaw_law_691 : decode b_ZoneNodesLaw_law 691 = .ok (.iload_n 3, 1) := by decide +kernel
theorem d_ZoneNodesLaw_law_692 : decode b_ZoneNodesLaw_law 692 = .ok (.iconst 3, 1) := by decide +kernel
theorem d_ZoneNodesLaw_law_693 : decode b_ZoneNodesLaw_law 693 = .ok (.iadd, 1) := by decide +kernel
theorem d_ZoneNodesLaw_law_694 : decode b_ZoneNodesLaw_law 694 = .ok (.iaload, 1) := by decide +kernel
theorem d_ZoneNodesLaw_law_695 : decode b_ZoneNodesLaw_law 695 = .ok (.invokevirtual 96, 3) := by decide +kernel
theorem d_ZoneNodesLaw_law_698 : decode b_ZoneNodesLaw_law 698 = .ok (.aload_n 2, 1) := by decide +kernel
theorem d_ZoneNodesLaw_law_699 : decode b_ZoneNodesLaw_law 699 = .ok (.aload_n 0, 1) := by decide +kernel
theorem d_ZoneNodesLaw_law_700 : decode b_ZoneNodesLaw_law 700 = .ok (.iload_n 3, 1) := by decide +kernel
theorem d_ZoneNodesLaw_law_701 : decode b_ZoneNodesLaw_law 701 = .ok (.iconst 1, 1) := by decide +kernel
theorem d_ZoneNodesLaw_law_702 : decode b_ZoneNodesLaw_law 702 = .ok (.iadd, 1) := by decide +kernel
theorem d_ZoneNodesLaw_law_703 : decode b_ZoneNodesLaw_law 703 = .ok (.iaload, 1) := by decide +kernel
theorem d_ZoneNodesLaw_law_704 : decode b_ZoneNodesLaw_law 704 = .ok (.aload_n 0, 1) := by decide +kernel
theorem d_ZoneNodesLaw_law_705 : decode b_ZoneNodesLaw_law 705 = .ok (.iload_n 3, 1) := by decide +kernel
theorem d_ZoneNodesLaw_law_706 : decode b_ZoneNodesLaw_law 706 = .ok (.iconst 2, 1) := by decide +kernel
theorem d_ZoneNodesLaw_law_707 : decode b_ZoneNodesLaw_law 707 = .ok (.iadd, 1) := by decide +kernel
theorem d_ZoneNodesLaw_law_708 : decode b_ZoneNodesLaw_law 708 = .ok (.iaload, 1) := by decide +kernel
theorem d_ZoneNodesLaw_law_709 : decode b_ZoneNodesLaw_law 709 = .ok (.aload_n 0, 1) := by decide +kernel
theorem d_ZoneNodesLaw_law_710 : decode b_ZoneNodesLaw_law 710 = .ok (.iload_n 3, 1) := by decide +kernel
theorem d_ZoneNodesLaw_law_711 : decode b_ZoneNodesLaw_law 711 = .ok (.iconst 3, 1) := by decide +kernel
theorem d_ZoneNodesLaw_law_712 : decode b_ZoneNodesLaw_law 712 = .ok (.iadd, 1) := by decide +kernel
theorem d_ZoneNodesLaw_law_713 : decode b_ZoneNodesLaw_law 713 = .ok (.iaload, 1) := by decide +kernel
theorem d_ZoneNodesLaw_law_714 : decode b_ZoneNodesLaw_law 714 = .ok (.invokevirtual 99, 3) := by decide +kernel
theorem d_ZoneNodesLaw_law_717 : decode b_ZoneNodesLaw_law 717 = .ok (.if_icmp .eq 41, 3) := by decide +kernel
theorem d_ZoneNodesLaw_law_720 : decode b_ZoneNodesLaw_law 720 = .ok (.iconst 0, 1) := by decide +kernel
theorem d_ZoneNodesLaw_law_721 : decode b_ZoneNodesLaw_law 721 = .ok (.ireturn, 1) := by decide +kernel
theorem d_ZoneNodesLaw_law_722 : decode b_ZoneNodesLaw_law 722 = .ok (.aload_n 1, 1) := by decide +kernel
theorem d_ZoneNodesLaw_law_723 : decode b_ZoneNodesLaw_law 723 = .ok (.aload_n 0, 1) := by decide +kernel
theorem d_ZoneNodesLaw_law_724 : decode b_ZoneNodesLaw_law 724 = .ok (.iload_n 3, 1) := by decide +kernel
theorem d_ZoneNodesLaw_law_725 : decode b_ZoneNodesLaw_law 725 = .ok (.iconst 1, 1) := by decide +kernel
theorem d_ZoneNodesLaw_law_726 : decode b_ZoneNodesLaw_law 726 = .ok (.iadd, 1) := by decide +kernel
theorem d_ZoneNodesLaw_law_727 : decode b_ZoneNodesLaw_law 727 = .ok (.iaload, 1) := by decide +kernel
theorem d_ZoneNodesLaw_law_728 : decode b_ZoneNodesLaw_law 728 = .ok (.invokevirtual 100, 3) := by decide +kernel
theorem d_ZoneNodesLaw_law_731 : decode b_ZoneNodesLaw_law 731 = .ok (.aload_n 2, 1) := by decide +kernel
theorem d_ZoneNodesLaw_law_732 : decode b_ZoneNodesLaw_law 732 = .ok (.aload_n 0, 1) := by decide +kernel
theorem d_ZoneNodesLaw_law_733 : decode b_ZoneNodesLaw_law 733 = .ok (.iload_n 3, 1) := by decide +kernel
theorem d_ZoneNodesLaw_law_734 : decode b_ZoneNodesLaw_law 734 = .ok (.iconst 1, 1) := by decide +kernel
theorem d_ZoneNodesLaw_law_735 : decode b_ZoneNodesLaw_law 735 = .ok (.iadd, 1) := by decide +kernel
theorem d_ZoneNodesLaw_law_736 : decode b_ZoneNodesLaw_law 736 = .ok (.iaload, 1) := by decide +kernel
theorem d_ZoneNodesLaw_law_737 : decode b_ZoneNodesLaw_law 737 = .ok (.invokevirtual 103, 3) := by decide +kernel
theorem d_ZoneNodesLaw_law_740 : decode b_ZoneNodesLaw_law 740 = .ok (.if_icmp .eq 18, 3) := by decide +kernel
theorem d_ZoneNodesLaw_law_743 : decode b_ZoneNodesLaw_law 743 = .ok (.iconst 0, 1) := by decide +kernel
theorem d_ZoneNodesLaw_law_744 : decode b_ZoneNodesLaw_law 744 = .ok (.ireturn, 1) := by decide +kernel
theorem d_ZoneNodesLaw_law_745 : decode b_ZoneNodesLaw_law 745 = .ok (.aload_n 1, 1) := by decide +kernel
theorem d_ZoneNodesLaw_law_746 : decode b_ZoneNodesLaw_law 746 = .ok (.invokevirtual 104, 3) := by decide +kernel
theorem d_ZoneNodesLaw_law_749 : decode b_ZoneNodesLaw_law 749 = .ok (.aload_n 2, 1) := by decide +kernel
theorem d_ZoneNodesLaw_law_750 : decode b_ZoneNodesLaw_law 750 = .ok (.invokevirtual 107, 3) := by decide +kernel
theorem d_ZoneNodesLaw_law_753 : decode b_ZoneNodesLaw_law 753 = .ok (.if_icmp .eq 5, 3) := by decide +kernel
theorem d_ZoneNodesLaw_law_756 : decode b_ZoneNodesLaw_law 756 = .ok (.iconst 0, 1) := by decide +kernel
theorem d_ZoneNodesLaw_law_757 : decode b_ZoneNodesLaw_law 757 = .ok (.ireturn, 1) := by decide +kernel
theorem d_ZoneNodesLaw_law_758 : decode b_ZoneNodesLaw_law 758 = .ok (.iinc 3 5, 3) := by decide +kernel
theorem d_ZoneNodesLaw_law_761 : decode b_ZoneNodesLaw_law 761 = .ok (.goto (-703), 3) := by decide +kernel
theorem d_ZoneNodesLaw_law_764 : decode b_ZoneNodesLaw_law 764 = .ok (.iconst 1, 1) := by decide +kernel
theorem d_ZoneNodesLaw_law_765 : decode b_ZoneNodesLaw_law 765 = .ok (.ireturn, 1) := by decide +kernel
