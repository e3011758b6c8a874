/**
 * Promises 10 and 18 to 22 for strips of 30 cells. What is due was counted apart from the program, by going through
 * all 2^30 strips (each differs from the one before by one cell) with a throw-away program.
 */
public final class BigTests {
    private static final Due D = new Due();
    private static final String RING_WALLS = "0=2 3=40 4=60 5=80 6=610 7=2000 8=4870 9=13760 10=38184 11=94920 12=226880 13=528160 14=1172550"
            + " 15=2473968 16=4945370 17=9327520 18=16580540 19=27670280 20=43121590 21=62510480 22=83946150"
            + " 23=103976520 24=118398650 25=123675456 26=118398650 27=103976520 28=83946150 29=62510480"
            + " 30=43121590 31=27670280 32=16580540 33=9327520 34=4945370 35=2473968 36=1172550 37=528160"
            + " 38=226880 39=94920 40=38184 41=13760 42=4870 43=2000 44=610 45=80 46=60 47=40 50=2";
    private static final String STRIP_WALLS = "0=2 2=8 3=70 4=144 5=456 6=1824 7=5196 8=14110 9=39844 10=104872 11=258066 12=611844 13=1383088"
            + " 14=2949796 15=5940944 16=11273926 17=20044380 18=33241176 19=51218126 20=72976454 21=95685376"
            + " 22=114968252 23=126152958 24=126152958 25=114968252 26=95685376 27=72976454 28=51218126"
            + " 29=33241176 30=20044380 31=11273926 32=5940944 33=2949796 34=1383088 35=611844 36=258066"
            + " 37=104872 38=39844 39=14110 40=5196 41=1824 42=456 43=144 44=70 45=8 47=2";
    private static final String RING_ENERGIES = "-85=2 -83=5 -81=7 -79=16 -77=37 -75=95 -73=232 -71=400 -69=939 -67=1911 -65=3978 -63=7686"
            + " -61=14200 -59=26275 -57=46475 -55=80599 -53=135008 -51=219876 -49=349161 -47=541575 -45=819022"
            + " -43=1209236 -41=1746074 -39=2463139 -37=3406029 -35=4616882 -33=6137047 -31=8006177 -29=10255501"
            + " -27=12894884 -25=15927179 -23=19336568 -21=23059250 -19=27039356 -17=31173476 -15=35319563"
            + " -13=39365527 -11=43152874 -9=46514547 -7=49353069 -5=51523593 -3=52926949 -1=53547852 1=53323124"
            + " 3=52286330 5=50503334 7=48035902 9=45015424 11=41565230 13=37816873 15=33909353 17=29961230"
            + " 19=26089154 21=22390900 23=18930632 25=15776061 27=12952643 29=10473344 31=8348311 33=6548993"
            + " 35=5058265 37=3844076 39=2869819 41=2106268 43=1517188 45=1072621 47=743183 49=504091 51=334514"
            + " 53=216271 55=136323 57=83299 59=49004 61=27842 63=15068 65=7828 67=3880 69=1799 71=817 73=341"
            + " 75=138 77=53 79=20 81=5 83=2";
    private static final String STRIP_ENERGIES = "-85=2 -83=6 -81=17 -79=43 -77=116 -75=259 -73=579 -71=1190 -69=2380 -67=4430 -65=8263 -63=14756"
            + " -61=25483 -59=43384 -57=71005 -55=114143 -53=179910 -51=276860 -49=418157 -47=621024 -45=902405"
            + " -43=1289115 -41=1812721 -39=2499129 -37=3391935 -35=4531449 -33=5948271 -31=7689111 -29=9790483"
            + " -27=12257303 -25=15115489 -23=18359454 -21=21934605 -19=25819865 -17=29921043 -15=34116755"
            + " -13=38310133 -11=42332193 -9=46032742 -7=49276385 -5=51897795 -3=53785479 -1=54839949 1=54997662"
            + " 3=54258713 5=52638181 7=50232826 9=47143280 11=43494289 13=39461605 15=35180017 17=30819426"
            + " 19=26539559 21=22451321 23=18664881 25=15246435 27=12228237 29=9631055 31=7445845 33=5650739"
            + " 35=4209753 37=3075313 39=2203113 41=1544834 43=1059509 45=711957 47=467100 49=299088 51=186795"
            + " 53=112984 55=67093 57=38941 59=21861 61=11891 63=5944 65=2980 67=1456 69=779 71=383 73=81 75=37"
            + " 77=27 79=18";
    private static final String LEVEL_ENERGIES = "-43=512 -39=10240 -37=512 -35=97280 -33=10240 -31=583680 -29=97280 -27=2480640 -25=583680"
            + " -23=7938048 -21=2480640 -19=19845120 -17=7938048 -15=39690240 -13=19845120 -11=64496640"
            + " -9=39690240 -7=85995520 -5=64496640 -3=94595072 -1=85995520 1=85995520 3=94595072 5=64496640"
            + " 7=85995520 9=39690240 11=64496640 13=19845120 15=39690240 17=7938048 19=19845120 21=2480640"
            + " 23=7938048 25=583680 27=2480640 29=97280 31=583680 33=10240 35=97280 37=512 39=10240 43=512";
    private static final String GREATEST_ENERGIES = "-100=2 -94=20 -90=10 -88=90 -86=20 -84=160 -82=325 -80=380 -78=1450 -76=1960 -74=3230 -72=7810"
            + " -70=11659 -68=19480 -66=34050 -64=53510 -62=90145 -60=141244 -58=215265 -56=340800 -54=513305"
            + " -52=754190 -50=1100584 -48=1565170 -46=2199070 -44=3026940 -42=4065750 -40=5386902 -38=7001960"
            + " -36=8913290 -34=11136030 -32=13631480 -30=16390014 -28=19357690 -26=22426155 -24=25528110"
            + " -22=28553840 -20=31400056 -18=34005430 -16=36278830 -14=38164365 -12=39647870 -10=40677415"
            + " -8=41258380 -6=41447190 -4=41194870 -2=40579895 0=39648088 2=38376300 4=36922490 6=35235585"
            + " 8=33415780 10=31519575 12=29513400 14=27537640 16=25484960 18=23524460 20=21574934 22=19679825"
            + " 24=17925590 26=16167370 28=14636620 30=13097291 32=11738410 34=10454165 36=9231000 38=8235505"
            + " 40=7171240 42=6388560 44=5534250 46=4828730 48=4238610 50=3594646 52=3212510 54=2679610"
            + " 56=2356870 58=1994530 60=1684360 62=1488835 64=1198040 66=1083570 68=850580 70=760025 72=625730"
            + " 74=511045 76=463560 78=332035 80=328512 82=234840 84=216140 86=174400 88=129910 90=126127"
            + " 92=82700 94=91010 96=54340 98=56660 100=39034 102=30665 104=33180 106=14735 108=22450 110=9780"
            + " 112=13410 114=9170 116=6940 118=6250 120=2670 122=5100 124=1030 126=3360 128=780 130=1230"
            + " 132=1530 134=530 136=1100 138=100 140=490 142=40 144=360 146=35 148=50 150=180 152=20 154=180"
            + " 158=20 162=20 168=10 172=20 190=1";

    private SpinStrips x;
    private final String name;
    private boolean ring;
    private int along;
    private int across;
    private String[] fields;

    private BigTests(String name) {
        this.name = name;
    }

    public static void main(String[] args) {
        String fields = "3 -2 1 0 -3 2 1 1 -1 -2 0 3 -1 2 -3 0 0 1 2 -2 3 -3 1 0 -1 2 -2 3 1 -3";
        new BigTests("a ring").set(true, -2, 1, fields)
                .dueAll(RING_ENERGIES, RING_WALLS, "15=1 16=1", "+++,--+,++-,--+,++-,---,+++,---,+++,---");
        new BigTests("a strip").set(false, 2, -1, fields)
                .dueAll(STRIP_ENERGIES, STRIP_WALLS, "17=1 18=1", "+-+,+-+,+-+,+-+,+-+,+-+,+-+,-+-,-+-,-+-");
        new BigTests("free rows").set(false, 0, -2, "0 0 -3")
                .dueAll(LEVEL_ENERGIES, STRIP_WALLS, "10=1 11=9 12=36 13=84 14=126 15=126 16=84 17=36 18=9 19=1",
                        "-+-,-+-,-+-,-+-,-+-,-+-,-+-,-+-,-+-,-+-");
        new BigTests("greatest pulls and fields").set(true, -2, -2, "3 ".repeat(30))
                .dueAll(GREATEST_ENERGIES, RING_WALLS, "15=2", "-+-,+-+,-+-,+-+,-+-,+-+,-+-,+-+,-+-,+-+");
        D.end();
    }

    private BigTests set(boolean ring, int along, int across, String fields) {
        this.ring = ring;
        this.along = along;
        this.across = across;
        this.fields = fields.split(" ");
        return this;
    }

    /** A new object with that strip, as one answers 512 calls alone. */
    private void makeAnew() {
        x = new SpinStrips();
        x.lay(10, 3, ring);
        x.setPull(false, along);
        x.setPull(true, across);
        for (int i = 0; i < fields.length; i++) {
            x.setField(i % 3, i / 3, Integer.parseInt(fields[i]));
        }
    }

    /** The numbers of a list like "-3=2 1=5", by their keys from -200 to 200. */
    private static int[] row(String list) {
        int[] row = new int[401];
        for (String one : list.split(" ")) {
            String[] parts = one.split("=");
            row[200 + Integer.parseInt(parts[0])] = Integer.parseInt(parts[1]);
        }
        return row;
    }

    private void dueAll(String energies, String walls, String ups, String first) {
        int[] byEnergy = row(energies);
        int[] byWalls = row(walls);
        int[] leastByUps = row(ups);
        makeAnew();
        for (int i = -200; i <= 200; i++) {
            D.due(name + ": withEnergy(" + i + ")", x.withEnergy(i), byEnergy[200 + i]);
        }
        makeAnew();
        for (int i = -70; i <= 70; i++) {
            D.due(name + ": withWalls(" + i + ")", x.withWalls(i), byWalls[200 + i]);
            D.due(name + ": withUps(" + i + ", true)", x.withUps(i, true), leastByUps[200 + i]);
        }
        makeAnew();
        int least = -200;
        while (byEnergy[200 + least] == 0) {
            least++;
        }
        int greatest = 200;
        while (byEnergy[200 + greatest] == 0) {
            greatest--;
        }
        D.due(name + ": least energy", x.count(8), least);
        D.due(name + ": greatest energy", x.count(9), greatest);
        D.due(name + ": how many have the least", x.count(10), byEnergy[200 + least]);
        for (int hundredths = 50; hundredths <= 100; hundredths++) {
            dueHeat(hundredths, byEnergy, least, greatest);
        }
        D.due(name + ": settle()", x.settle(), least);
        D.dueSpins(name + ": settle()", x, first);
    }

    private void dueHeat(int hundredths, int[] byEnergy, int least, int greatest) {
        float b = (float) hundredths / 100.0f;
        float weight = 1.0f;
        float weights = 0.0f;
        float energies = 0.0f;
        for (int energy = least; energy <= greatest; energy++) {
            weights += (float) byEnergy[200 + energy] * weight;
            energies += (float) byEnergy[200 + energy] * weight * (float) energy;
            weight *= b;
        }
        D.due(name + ": heat(" + hundredths + ", false)", x.heat(hundredths, false), Float.floatToIntBits(weights));
        D.due(name + ": heat(" + hundredths + ", true)", x.heat(hundredths, true),
                Float.floatToIntBits(energies / weights));
    }
}
