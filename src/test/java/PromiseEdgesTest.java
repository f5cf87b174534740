/**
 * For each edge that a sentence of a promise names, and for each call that it refuses, a run of its
 * own; its title quotes the words that it holds the class to.
 */
public final class PromiseEdgesTest {
    private static final Runs RUNS = new Runs();

    public static void main(String[] args) {
        promise1();
        promise2();
        promise3();
        promise4Makes();
        promise4Refuses();
        promise5();
        promise6();
        promise7();
        promise8();
        promise9();
        promise10();
        promise11();
        RUNS.end();
    }

    private static void promise1() {
        RUNS.check("1 'No BLOCKS': none is counted", "count(0)=0 count(1)=0 count(2)=0 count(3)=0 count(4)=0");
        RUNS.check("1 'No BLOCKS': none can be given back", """
            back(0)=IllegalArgument back(16)=IllegalArgument again(16,0)=IllegalArgument
            """);
        RUNS.check("1 'No BLOCKS': none has an octet", """
            kind(0)=0 kind(16)=0 kind(8191)=0 block(0)=-1 block(16)=-1 block(8191)=-1
            read(0)=IllegalState read(16)=IllegalState write(0,0)=IllegalState write(16,1)=IllegalState
            """);
        RUNS.check("1 'No BLOCKS': none is lost", "lost(0,16)=0 lostAt(0)=IndexOutOfBounds");
        RUNS.check("1 'No BLOCKS': none is in the way", "get(2048)=16");
        anotherObjectHasNoBlocks();
    }

    private static void anotherObjectHasNoBlocks() {
        ZoneHeap one = new ZoneHeap();
        ZoneHeap other = new ZoneHeap();
        for (String call : new String[] {"get(8)", "write(16,7)", "get(4)", "back(48)", "lost(0,0)"}) {
            Runs.answer(one, call);
        }
        String title = "1 'No BLOCKS': what another object has is not here";
        RUNS.checkOn(other, title, """
            count(0)=0 count(1)=0 count(2)=0 count(3)=0 count(4)=0 lostAt(0)=IndexOutOfBounds
            get(8)=16 read(16)=0 get(8)=48 lost(16,0)=1 lostAt(0)=48
            """);
        RUNS.checkOn(one, title, "count(0)=1 count(1)=8 count(2)=1 count(3)=4 count(4)=2 lostAt(0)=16 read(16)=7");
    }

    private static void promise2() {
        RUNS.check("2 '0 if there is no room': full of the smallest",
            Runs.fullOfSmall() + "get(0)=0 get(1)=0 get(2048)=0");
        RUNS.check("2 '0 if there is no room': full of the largest",
            Runs.FULL_OF_LARGE + "get(0)=0 get(1)=0 get(2048)=0");
        RUNS.check("2 '0 if there is no room': full of KEPT ones, until they are gone",
            "get(513)=16 " + Runs.each(560, 8144, 32, "get(0)=@") + Runs.each(560, 8144, 32, "back(@)=0")
                + "get(0)=0 count(2)=238 back(16)=513 get(2048)=16");
        RUNS.check("2 '0 if there is no room': full of large ones, until one is gone",
            Runs.FULL_OF_LARGE + "back(2080)=2048 get(0)=2080");
        RUNS.check("2 '0 if there is no room': for this n, though for less", """
            get(2048)=16 get(2048)=2080 get(2048)=4144 get(2048)=0 get(1969)=0 get(1968)=6208
            """);
        RUNS.check("2 '0 if there is no room': all holes together would do", """
            get(1000)=16 get(1)=1040 get(1000)=1072 get(1)=2096 get(2048)=2128 get(2048)=4192 get(1920)=6256
            back(16)=1000 back(1072)=1000 get(1009)=0 get(1008)=16 get(1008)=1072
            """);
        RUNS.check("2 '0 if there is no room': nothing is made", Runs.FULL_OF_LARGE + """
            get(1)=0 count(0)=4 count(1)=8112 count(2)=0 count(3)=0 count(4)=4 kind(0)=3 kind(8191)=3
            """);
        RUNS.check("2 'IllegalArgumentException: n': too small", """
            get(-1)=IllegalArgument get(-16)=IllegalArgument get(-2147483648)=IllegalArgument get(0)=16
            """);
        RUNS.check("2 'IllegalArgumentException: n': too large", """
            get(2049)=IllegalArgument get(8192)=IllegalArgument get(2147483647)=IllegalArgument get(2048)=16
            """);
        RUNS.check("2 'IllegalArgumentException: n': nothing is made", """
            get(-1)=IllegalArgument get(2049)=IllegalArgument count(0)=0 count(1)=0 count(4)=0 kind(16)=0 get(1)=16
            """);
        RUNS.check("2 'IllegalArgumentException: n': where there is no room, too", Runs.FULL_OF_LARGE + """
            get(-1)=IllegalArgument get(2049)=IllegalArgument get(0)=0
            """);
    }

    private static void promise3() {
        RUNS.check("3 'its n': the smallest and the largest", """
            get(0)=16 get(1)=48 get(2047)=80 get(2048)=2144 back(16)=0 back(48)=1 back(80)=2047 back(2144)=2048
            """);
        RUNS.check("3 'The LIVE BLOCK that stands there': the first place and the last one", """
            get(2048)=16 get(2048)=2080 get(2048)=4144 get(1936)=6208 get(9)=8160 back(8160)=9 back(16)=2048
            """);
        RUNS.check("3 'IllegalStateException: it is KEPT'", """
            get(0)=16 get(512)=48 back(16)=0 back(16)=IllegalState back(48)=512 back(48)=IllegalState
            back(16)=IllegalState
            """);
        RUNS.check("3 'IllegalStateException: it is KEPT': and no later than it was", """
            get(256)=16 get(256)=288 get(1)=560 back(16)=256 back(288)=256 back(16)=IllegalState count(2)=2
            count(3)=512 back(560)=1 back(16)=IllegalArgument back(288)=IllegalState count(0)=0 count(1)=0
            """);
        RUNS.check("3 'else there is none': inside a LIVE one", """
            get(64)=16 back(17)=IllegalArgument back(32)=IllegalArgument back(79)=IllegalArgument count(0)=1
            kind(16)=1
            """);
        RUNS.check("3 'else there is none': inside a KEPT one", """
            get(64)=16 back(16)=64 back(17)=IllegalArgument back(32)=IllegalArgument back(79)=IllegalArgument
            count(2)=1
            """);
        RUNS.check("3 'else there is none': round one", """
            get(20)=16 back(0)=IllegalArgument back(15)=IllegalArgument back(36)=IllegalArgument
            back(48)=IllegalArgument back(64)=IllegalArgument count(0)=1
            """);
        RUNS.check("3 'else there is none': it is gone", """
            get(513)=16 back(16)=513 back(16)=IllegalArgument get(512)=16 back(16)=512 get(1)=544 back(544)=1
            back(16)=IllegalArgument back(544)=IllegalState
            """);
        RUNS.check("3 'else there is none': no octet is there", """
            get(1)=16 back(-1)=IllegalArgument back(-16)=IllegalArgument back(8191)=IllegalArgument
            back(8192)=IllegalArgument back(8208)=IllegalArgument back(-2147483648)=IllegalArgument
            back(-2147483632)=IllegalArgument back(2147483647)=IllegalArgument count(0)=1
            """);
        RUNS.check("3 'else there is none': a new one stands where one that is gone stood", """
            get(513)=16 back(16)=513 get(9)=16 back(16)=9 back(16)=IllegalState
            """);
    }

    private static void promise4Makes() {
        RUNS.check("4 '(the old one still takes its octets)': it moves, though it gets as many or fewer", """
            get(40)=16 again(16,40)=80 again(80,1)=144 again(144,0)=176 again(176,1)=208
            """);
        RUNS.check("4 '(the old one still takes its octets)': one of 513 or more, too, which is gone then", """
            get(513)=16 again(16,513)=560 kind(16)=0 again(560,513)=16 kind(560)=0 count(0)=1 count(2)=0 count(4)=3
            """);
        RUNS.check("4 '(the old one still takes its octets)': else there were room", Runs.FULL_OF_LARGE + """
            again(16,1)=0 again(6208,0)=0 again(4144,2048)=0
            """);
        RUNS.check("4 '(the old one still takes its octets)': KEPT ones that it sends away, too", """
            get(512)=16 get(600)=544 back(16)=512 again(544,1)=1168 kind(16)=0 kind(544)=0 get(1)=16
            """);
        RUNS.check("4 'as many octets as both have': all of the old one", """
            get(5)=16 write(16,-2)=done write(17,-1)=done again(16,6)=48 read(48)=-2 read(49)=-1 read(50)=16777215
            """);
        RUNS.check("4 'as many octets as both have': none behind the old one's n", """
            get(600)=16 write(16,-1)=done write(20,-1)=done back(16)=600 get(5)=16 again(16,8)=48 read(48)=-1
            read(52)=255
            """);
        RUNS.check("4 'as many octets as both have': no more than the new one's n", """
            get(8)=16 write(16,11)=done write(20,-1)=done again(16,5)=48 back(48)=5 get(600)=80 back(80)=600
            get(8)=16 get(8)=48 read(48)=11 read(52)=255
            """);
        RUNS.check("4 'as many octets as both have': none of both", """
            get(0)=16 again(16,4)=48 read(48)=0 write(48,9)=done again(48,0)=80 again(80,4)=112 read(112)=0
            """);
        RUNS.check("4 'as many octets as both have': all of the largest, the others stay", """
            get(2048)=16 write(16,1)=done write(2060,-5)=done again(16,2048)=2080 read(2080)=1 read(4124)=-5
            get(2048)=16 read(16)=1 read(2060)=-5
            """);
        RUNS.check("4 'the old one is given back': the latest KEPT one", """
            get(300)=16 get(200)=336 get(100)=560 back(336)=200 again(16,0)=688 back(560)=100
            back(336)=IllegalArgument back(16)=IllegalState back(560)=IllegalState count(3)=400
            """);
        RUNS.check("4 'the old one is given back': with 512 KEPT, with 513 not", """
            get(512)=16 get(0)=544 again(16,0)=576 count(2)=1 count(3)=512 again(544,1)=608 count(2)=2 count(3)=512
            again(608,0)=640 count(2)=2 count(3)=1 back(16)=IllegalArgument back(544)=IllegalState
            back(608)=IllegalState
            """);
    }

    private static void promise4Refuses() {
        RUNS.check("4 '0 if there is no room (all stays)'", """
            get(2048)=16 get(2048)=2080 get(2048)=4144 write(16,5)=done get(10)=6208 back(6208)=10 lost(2080,0)=2
            again(16,1937)=0 count(0)=3 count(1)=6144 count(2)=1 count(3)=10 count(4)=4 lostAt(1)=4144
            kind(16)=1 kind(6208)=2 kind(6240)=0 read(16)=5 back(6208)=IllegalState
            """);
        RUNS.check("4 '0 if there is no room (all stays)': room for just so many", """
            get(2048)=16 get(2048)=2080 get(2048)=4144 write(16,5)=done again(16,1969)=0 again(16,1968)=6208
            read(6208)=5
            """);
        RUNS.check("4 '0 if there is no room (all stays)': full of the smallest",
            Runs.fullOfSmall() + "again(16,0)=0 again(8144,0)=0 count(0)=255 count(2)=0 count(4)=255");
        RUNS.check("4 'Likewise': it is KEPT", """
            get(4)=16 back(16)=4 again(16,4)=IllegalState again(16,0)=IllegalState count(0)=0 count(2)=1 count(4)=1
            """);
        RUNS.check("4 'Likewise': it is KEPT, though there is no room, too",
            Runs.fullOfSmall() + "back(16)=0 again(16,0)=IllegalState again(48,0)=0");
        RUNS.check("4 'Likewise': else there is none", """
            get(40)=16 again(15,4)=IllegalArgument again(17,4)=IllegalArgument again(32,4)=IllegalArgument
            again(0,4)=IllegalArgument again(64,4)=IllegalArgument again(80,4)=IllegalArgument count(0)=1 count(4)=1
            """);
        RUNS.check("4 'Likewise': else there is none, it is gone", """
            get(513)=16 back(16)=513 again(16,4)=IllegalArgument count(4)=1
            """);
        RUNS.check("4 'Likewise': else there is none, no octet is there", """
            get(4)=16 again(-1,4)=IllegalArgument again(-16,4)=IllegalArgument again(8192,4)=IllegalArgument
            again(-2147483648,4)=IllegalArgument again(2147483647,4)=IllegalArgument count(4)=1
            """);
        RUNS.check("4 'n, too': too small, too large", """
            get(4)=16 again(16,-1)=IllegalArgument again(16,2049)=IllegalArgument
            again(16,-2147483648)=IllegalArgument again(16,2147483647)=IllegalArgument kind(16)=1 count(0)=1
            count(4)=1 again(16,2048)=48
            """);
        RUNS.check("4 '(looked at first)': before it is KEPT", """
            get(4)=16 back(16)=4 again(16,-1)=IllegalArgument again(16,2049)=IllegalArgument
            again(16,2048)=IllegalState
            """);
        RUNS.check("4 '(looked at first)': before there is no room", Runs.FULL_OF_LARGE + """
            again(16,-1)=IllegalArgument again(16,2049)=IllegalArgument again(16,0)=0
            """);
    }

    private static void promise5() {
        RUNS.check("5 '0 FREE, 1 LIVE, 2 KEPT, 3 ZONE'", """
            get(20)=16 get(20)=64 back(64)=20 kind(35)=1 kind(36)=3 kind(63)=3 kind(64)=2 kind(83)=2 kind(84)=3
            kind(111)=3 kind(112)=0
            """);
        RUNS.check("5 'there is no such octet'", """
            kind(-1)=IndexOutOfBounds kind(-16)=IndexOutOfBounds kind(-17)=IndexOutOfBounds
            kind(-2147483648)=IndexOutOfBounds kind(8192)=IndexOutOfBounds kind(8208)=IndexOutOfBounds
            kind(2147483647)=IndexOutOfBounds kind(0)=0 kind(8191)=0
            """);
    }

    private static void promise6() {
        RUNS.check("6 'Where the LIVE BLOCK stands that has this octet': its first and its last one", """
            get(20)=16 get(2048)=64 block(16)=16 block(35)=16 block(64)=64 block(2111)=64
            """);
        RUNS.check("6 '-1 if it is not LIVE': a ZONE", """
            get(20)=16 get(1)=64 block(0)=-1 block(15)=-1 block(36)=-1 block(47)=-1 block(48)=-1 block(63)=-1
            block(65)=-1
            """);
        RUNS.check("6 '-1 if it is not LIVE': KEPT", "get(20)=16 back(16)=20 block(16)=-1 block(35)=-1");
        RUNS.check("6 '-1 if it is not LIVE': FREE",
            "get(20)=16 block(64)=-1 block(8191)=-1 get(513)=64 back(64)=513 block(64)=-1");
        RUNS.check("6 '-1 if it is not LIVE': where one of 0 stands", "get(0)=16 block(16)=-1");
        RUNS.check("6 'IndexOutOfBoundsException'", """
            block(-1)=IndexOutOfBounds block(-16)=IndexOutOfBounds block(-2147483648)=IndexOutOfBounds
            block(8192)=IndexOutOfBounds block(8208)=IndexOutOfBounds block(2147483647)=IndexOutOfBounds
            block(0)=-1 block(8191)=-1
            """);
    }

    private static void promise7() {
        RUNS.check("7 'Four octets from at on': no more and no fewer", """
            get(12)=16 write(16,-1)=done write(20,-1)=done write(24,-1)=done write(19,0)=done
            read(16)=16777215 read(20)=-16777216 read(24)=-1
            """);
        RUNS.check("7 'those of v, the lowest first'", """
            get(7)=16 write(16,67305985)=done read(17)=262914 write(19,134678021)=done read(16)=84083201
            read(17)=100991746 read(18)=117835011
            """);
        RUNS.check("7 'those of v, the lowest first': the least and the greatest v, and the signs of octets", """
            get(4)=16 write(16,-2147483648)=done read(16)=-2147483648 write(16,2147483647)=done read(16)=2147483647
            write(16,128)=done read(16)=128 write(16,-32640)=done read(16)=-32640 write(16,8388608)=done
            read(16)=8388608 write(16,-1)=done read(16)=-1 write(16,0)=done read(16)=0
            """);
        RUNS.check("7 'Four octets from at on': the first and the last that can be LIVE", Runs.FULL_OF_LARGE + """
            write(16,3)=done write(8172,4)=done read(16)=3 read(8172)=4 write(15,1)=IllegalState
            write(8173,1)=IllegalState
            """);
        RUNS.check("7 'there are none': before the first", """
            write(-1,1)=IndexOutOfBounds write(-2,1)=IndexOutOfBounds write(-3,1)=IndexOutOfBounds
            write(-4,1)=IndexOutOfBounds write(-2147483648,1)=IndexOutOfBounds write(0,1)=IllegalState
            """);
        RUNS.check("7 'there are none': behind the last", """
            write(8189,1)=IndexOutOfBounds write(8190,1)=IndexOutOfBounds write(8191,1)=IndexOutOfBounds
            write(8192,1)=IndexOutOfBounds write(2147483644,1)=IndexOutOfBounds write(2147483645,1)=IndexOutOfBounds
            write(2147483647,1)=IndexOutOfBounds write(8188,1)=IllegalState
            """);
        RUNS.check("7 'they are not all LIVE': some before it, some behind it, none; nothing is written", """
            get(20)=16 write(13,-1)=IllegalState write(14,-1)=IllegalState write(15,-1)=IllegalState
            write(12,-1)=IllegalState write(33,-1)=IllegalState write(34,-1)=IllegalState write(35,-1)=IllegalState
            write(36,-1)=IllegalState read(16)=0 read(32)=0
            """);
        RUNS.check("7 'they are not all LIVE': a block of fewer than four", """
            get(3)=16 write(16,1)=IllegalState get(0)=48 write(48,1)=IllegalState get(4)=80 write(80,1)=done
            """);
        RUNS.check("7 'they are not all LIVE': KEPT; nothing is written", """
            get(8)=16 write(16,3)=done back(16)=8 write(16,4)=IllegalState write(20,4)=IllegalState
            get(513)=48 back(48)=513 get(8)=16 read(16)=3 read(20)=0
            """);
        RUNS.check("7 'they are not all LIVE': gone; nothing is written", """
            get(513)=16 write(16,3)=done back(16)=513 write(16,4)=IllegalState get(4)=16 read(16)=3
            """);
    }

    private static void promise8() {
        RUNS.check("8 'What they are': at any address, and they stay so", """
            get(9)=16 write(16,1)=done write(20,2)=done write(21,-2147483648)=done read(20)=2 read(21)=-2147483648
            read(18)=131072 read(18)=131072 read(16)=1
            """);
        RUNS.check("8 'Likewise': the first and the last that can be LIVE", Runs.FULL_OF_LARGE + """
            read(16)=0 read(8172)=0 read(15)=IllegalState read(8173)=IllegalState
            """);
        RUNS.check("8 'Likewise': there are none before the first", """
            read(-1)=IndexOutOfBounds read(-2)=IndexOutOfBounds read(-3)=IndexOutOfBounds read(-4)=IndexOutOfBounds
            read(-2147483648)=IndexOutOfBounds read(0)=IllegalState
            """);
        RUNS.check("8 'Likewise': there are none behind the last", """
            read(8189)=IndexOutOfBounds read(8190)=IndexOutOfBounds read(8191)=IndexOutOfBounds
            read(8192)=IndexOutOfBounds read(2147483644)=IndexOutOfBounds read(2147483645)=IndexOutOfBounds
            read(2147483647)=IndexOutOfBounds read(8188)=IllegalState
            """);
        RUNS.check("8 'Likewise': not all LIVE, some before it, some behind it, none", """
            get(20)=16 read(12)=IllegalState read(13)=IllegalState read(14)=IllegalState read(15)=IllegalState
            read(16)=0 read(32)=0 read(33)=IllegalState read(34)=IllegalState read(35)=IllegalState
            read(36)=IllegalState
            """);
        RUNS.check("8 'Likewise': not all LIVE, a block of fewer than four", """
            get(3)=16 read(16)=IllegalState get(0)=48 read(48)=IllegalState get(4)=80 read(80)=0
            """);
        RUNS.check("8 'Likewise': not all LIVE, but KEPT or gone", """
            get(8)=16 back(16)=8 read(16)=IllegalState get(513)=48 back(48)=513 read(16)=IllegalState
            read(48)=IllegalState
            """);
    }

    private static void promise9() {
        RUNS.check("9 'How many LIVE BLOCKS': there are none",
            "lost(0,0)=0 get(8)=16 back(16)=8 lost(0,0)=0 lost(16,16)=0");
        RUNS.check("9 'How many LIVE BLOCKS': as many as there can be",
            Runs.fullOfSmall() + "lost(0,0)=255 lost(16,8144)=253");
        RUNS.check("9 'How many LIVE BLOCKS': KEPT ones and those that are gone do not count", """
            get(8)=16 get(600)=48 get(8)=672 lost(0,0)=3 back(48)=600 lost(0,0)=2 back(16)=8 lost(0,0)=1 lost(672,0)=0
            """);
        RUNS.check("9 'neither from a nor from b': from a alone, from b alone, from both, from none", """
            get(8)=16 get(8)=48 get(8)=80 lost(16,0)=2 lost(0,48)=2 lost(16,80)=1 lost(48,48)=2 lost(0,0)=3
            write(16,80)=done write(48,80)=done lost(16,48)=0 lost(48,16)=0 lost(0,16)=1 lost(48,0)=1
            """);
        RUNS.check("9 'neither from a nor from b': each time anew", """
            get(8)=16 get(8)=48 lost(16,48)=0 lost(0,0)=2 lost(16,0)=1 lost(48,0)=1 write(16,48)=done lost(16,0)=0
            write(16,0)=done lost(16,0)=1
            """);
        RUNS.check("9 'neither from a nor from b': they may be any numbers", """
            get(8)=16 lost(-1,-2147483648)=1 lost(8192,2147483647)=1 lost(-2147483632,65552)=1 lost(2147483647,16)=0
            """);
        RUNS.check("9 'How many LIVE BLOCKS': nothing else changes", """
            get(8)=16 get(4)=48 back(48)=4 lost(0,0)=1 count(0)=1 count(1)=8 count(2)=1 count(3)=4 count(4)=2
            kind(16)=1
            """);
    }

    private static void promise10() {
        RUNS.check("10 'Where the k-th of them stands': the first and the last", """
            get(8)=16 get(8)=48 get(8)=80 lost(0,0)=3 lostAt(0)=16 lostAt(1)=48 lostAt(2)=80
            """);
        RUNS.check("10 'Where the k-th of them stands': of as many as there can be",
            Runs.fullOfSmall() + "lost(0,0)=255 lostAt(0)=16 lostAt(254)=8144 lostAt(255)=IndexOutOfBounds");
        RUNS.check("10 'by addresses': not as they were made", """
            get(600)=16 get(8)=640 get(8)=672 back(16)=600 get(8)=16 lost(640,0)=2 lostAt(0)=16 lostAt(1)=672
            """);
        RUNS.check("10 'of the latest lost()': fewer than before, others than before, none", """
            get(8)=16 get(8)=48 lost(0,0)=2 lost(16,0)=1 lostAt(0)=48 lostAt(1)=IndexOutOfBounds lost(48,0)=1
            lostAt(0)=16 lost(16,48)=0 lostAt(0)=IndexOutOfBounds
            """);
        RUNS.check("10 '(what came later changes nothing)': back, again, get", """
            get(8)=16 get(8)=48 get(8)=80 lost(0,0)=3 back(16)=8 lostAt(0)=16 again(48,8)=112 lostAt(1)=48 get(8)=144
            lostAt(0)=16 lostAt(1)=48 lostAt(2)=80 lostAt(3)=IndexOutOfBounds
            """);
        RUNS.check("10 '(what came later changes nothing)': write", """
            get(8)=16 get(8)=48 lost(16,0)=1 write(16,48)=done lostAt(0)=48 lostAt(1)=IndexOutOfBounds
            """);
        RUNS.check("10 '(what came later changes nothing)': a lost block that another one replaces", """
            get(600)=16 lost(0,0)=1 back(16)=600 get(4)=16 get(4)=48 lostAt(0)=16 lostAt(1)=IndexOutOfBounds
            """);
        RUNS.check("10 'there is none': too small, too large", """
            get(8)=16 get(8)=48 lost(0,0)=2 lostAt(-1)=IndexOutOfBounds lostAt(2)=IndexOutOfBounds
            lostAt(16)=IndexOutOfBounds lostAt(-2147483648)=IndexOutOfBounds lostAt(2147483647)=IndexOutOfBounds
            lostAt(1)=48
            """);
        RUNS.check("10 'there is none': before the first lost()",
            "get(8)=16 lostAt(0)=IndexOutOfBounds lostAt(-1)=IndexOutOfBounds");
        RUNS.check("10 'there is none': none was lost", "get(8)=16 lost(16,0)=0 lostAt(0)=IndexOutOfBounds");
    }

    private static void promise11() {
        RUNS.check("11 '0: LIVE BLOCKS'", """
            get(0)=16 count(0)=1 get(9)=48 count(0)=2 back(16)=0 count(0)=1 again(48,0)=80 count(0)=1 back(80)=0
            count(0)=0
            """);
        RUNS.check("11 '1: octets of these': n each", """
            get(0)=16 count(1)=0 get(9)=48 count(1)=9 get(17)=80 count(1)=26 again(48,2)=128 count(1)=19 back(80)=17
            count(1)=2
            """);
        RUNS.check("11 '2: KEPT ones'", """
            get(0)=16 get(9)=48 count(2)=0 back(16)=0 count(2)=1 again(48,513)=80 count(2)=2 back(80)=513 count(2)=0
            """);
        RUNS.check("11 '3: octets of these': n each", """
            get(0)=16 get(9)=48 count(3)=0 back(16)=0 count(3)=0 again(48,513)=80 count(3)=9 back(80)=513 count(3)=0
            """);
        RUNS.check("11 '4: BLOCKS that were made in all': those given back and gone, too", """
            get(9)=16 count(4)=1 get(600)=48 count(4)=2 back(16)=9 count(4)=2 back(48)=600 count(4)=2
            """);
        RUNS.check("11 '(by again, too)'", "get(9)=16 again(16,9)=48 count(4)=2 again(48,0)=80 count(4)=3");
        RUNS.check("11 '4: BLOCKS that were made in all': no other call makes one",
            Runs.FULL_OF_LARGE + """
            get(0)=0 again(16,0)=0 get(-1)=IllegalArgument again(16,2049)=IllegalArgument again(17,1)=IllegalArgument
            count(4)=4
            """);
        RUNS.check("11 'IllegalArgumentException for others'", """
            count(-1)=IllegalArgument count(5)=IllegalArgument count(-2147483648)=IllegalArgument
            count(2147483647)=IllegalArgument count(0)=0 count(4)=0
            """);
    }
}
