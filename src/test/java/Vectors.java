/**
 * Answers that are due, made by another program than the one under test: a plain reading of FIPS 202, 203 and 204
 * in another language, whose own hashes are a library's. All inputs are Check.stream of a label; what is long is
 * told by its SHA3-256.
 */
final class Vectors {
    private Vectors() {
    }

    /**
     * Set, case c; SHA3-256 of the public part, the secret part and ciphertext with secret; the secret; the secret
     * when bit 5 of byte 17 * c of the ciphertext is turned. Inputs: "kem keys SET CASE", "kem message SET CASE".
     */
    static final String[][] KEM = {
        {"0", "0",
            "88a46d9fb4917457b7e66444af956eb8a228905084632c663ee746427f268f44",
            "eb77891ee81be332692750a783e6309cde46a2a1c39877ed2fced7678071775a",
            "a72f07c938be37c77783b24568e7fa5d9e34d9278d75997ceaa19d18372ab0d5",
            "56514094afeba3f80ee79508f3a306d457b6c070475c91c8121cec59ea76517d",
            "2c682520c856c219e2d0df446809bb0d9c7a9fbc5c2245c4ba1d7f4995856ff8"},
        {"0", "1",
            "007ee8d9e5e931f0917fdc5be0351065acb2ee9be2022b1d2e3eb6b1f2a2eead",
            "1d090fbab919856368d094ddd13768343211cab0867000db71537ebfca2c1eb4",
            "741b22a24ce337cad49293b2cc21316d1ec53140b250af55463e2d95fd232f31",
            "0f478160f7a30ff7ef26c3687a4ac24c9d42de32af0c61352237da8a587ab761",
            "12253a0bf478ed08fe0bc247fb323bc69cd68d6397309b17c37d39876b0ff6c6"},
        {"0", "2",
            "3dd7f811e4b16281a4674c608e7fe914d6e5f02f76f5b03812440dcda7d9d406",
            "c0cbed8a6c334c62a10fa1ca101623624996d4bc90653ec1acc96ccfb7696a35",
            "0d179363caa635b4523d0e3d81d0a587008d304c4342b22ad25f73740cd5719b",
            "df44c72d053df51e3639edf6e12f074914027349074d9880ec2e26a120ea0a9c",
            "3a401238df2dc8f61774a3e286afe35983d6ddcbd09d9ba097bdaca7e9e8e67a"},
        {"1", "0",
            "c48b7e7eba8052ddd29ff6e4f21ab4b485903c608aadc0e692df9e545c54fa2a",
            "70479796f92e36de9e257fbdaa7cf51135b5b3d81d399cb322ce7878f51d0a67",
            "a7043948af72d817b53e6a0a278637a7d35ccbcae2bd999d96ba389a002304e6",
            "b5098c5c368eb322578549ddab4930f74309db9cdd576eeb4c90ca7feb645ffb",
            "6b6e2c8b61497e9192c79daf4b2d8dcd0a53a3ea2fc6e76a21d42d41d7612f72"},
        {"1", "1",
            "1f3ca640dd600ecef21d6a363a3d73c159ed1d041b60c99b32f1bcf237a669e6",
            "b26dd8ffb5eb58889e600281914c3183a1511b774c871b0d9c5f2c3d89e81363",
            "31f6d6a980c0beefe951c3691a4d5587f0aee620cf17bb9ca7411d3dedb90a4a",
            "8fe33ee66208b5bd245952dde262255deb766a6d33ccef179d5bf19313f33106",
            "b40cf7277066b0ae32d038c4437ad32383d3f7f8643939d4af0bdaea4226aa10"},
        {"1", "2",
            "5b73400abd5f2309a69083c8ffdbded89fed3f410c961a2ca814097ed6c2c0b1",
            "8e120353a9d98bd7564eedcdbd390ff89b2dcfe603119dd247b6714f4a311b60",
            "e076c56fa0ed5cc9ea3f0b66e7b68c28138c59965675da3d520e31e915a970a0",
            "119c5d25ddb1c0ad743d1cbfe712ff273b6d992021a8e9ae4b231f7a1966cfc5",
            "e7c65fe8ae22a719bce4fb3cdd691316c135ecb510328ab5092a0e3cc08ccbff"},
        {"2", "0",
            "ff9bfde363d96e1dd4cabd49d401fe9743f8422b475b91eb2411a60a2e44c3cb",
            "90da7475248ad6d053355c5a118159e2dcd4cdcf8b025e5f80e1b3002ee2a586",
            "0df8329344697987a03c9381f58e4a08ac85cbaf31c2248cd2d8b3b2d92bf971",
            "279128fccb9dd552bc68f8d0f32f9d065c8048c811985b027cac35b778cb18c3",
            "dbfc5ca0f0582e29aa51a1ba87ee694208a9c239a572a39933d72ea9d37914f2"},
        {"2", "1",
            "03043fb6d31bd62d52ee2e5ba03e6020d97aff7d724e5397295faa8728533423",
            "1d40e5e55dcbbaa2f5673ba2ebd2a16da23dba2abe41b16a9a40bf012324dae0",
            "a1015b088de56c817394868e8abea9a75c88ca7d816e21e61f6f96755f4637d2",
            "0707097935f1e1f66aa40aa12590066a15434b3ca824893b2f3936535a54d403",
            "78a4420fa5af24323b033d26624f17e0b6b2cf517c5198b786fac5782a0157ac"},
        {"2", "2",
            "585e89083da2c10c8b9755403889f78d4ba7de61981170e8992860b2e65d8318",
            "52dbe7a67e49dfe00fd80b3b4cb2f3ebd6f2d012ad6379fa0e50cc86db4983d9",
            "ed70ef3f90f302b38052e6c9c865f81e34c5f8f377a973cf9ae46a9527a78600",
            "a2b5c1ec26c316cef87f6c3191ef7cc720f9e2a3680375305e9c61682e8cf572",
            "224a6a741d883771673d62c8589849300950c101ac894bb4196dbe5ec3f512fa"},
    };

    /** The ciphertext of set 0, case 0, in base 64. */
    static final String KEM_CIPHER =
        "FSaSFWqKI88qnkl+Te0W+sHmh94tXA0mXaJp+iaS90BBACJqMCnD40X49a6bKQgat0OygU/rhy7bbQgGs2vOHG8sPNLxuNMzRKNl"
        + "c5geSySSvHb8lPd83SeSESTF5Cx/JlMt9sXHsyzpierfKjfXG2/E87o6nDRrt99OgtczxCQQa0zwqIrtoZsfSJ6v/rD+/F+Ks22K"
        + "s9VcxhmRSnPTNThP9hQnqdwc59Iv0uggjjpTOZfo97Ql3BRAV5oU9wr0NVgzKgYix/ozr8knTjQilEGKfYQHhOUTEICh84Cv5FNJ"
        + "fUj1ThiK2qQQMtjYj7cq7zNy+Wx2W9fJVrigTM7V/iH2bR4N84nEfLJTnPUIPRCCxOXuu2vRIF7RovwOw4HsKUgJA28QnZZrRKHQ"
        + "6exFhiqfpGUjhQsw1gGbvKoDUI2OTXSDEiVSZ8daYKMeyWKmYdc8c177GPeBylXU99dQaAg1ZL8e/rV2zvxLZ10736MwMABF0TRe"
        + "ckLQNbb9Uayi3h718PahXGV5JPXWFLV+QXfULHiFaXIbkPv/TPWHJgwyQv7mLSusVHySdDBC5kSMXm8reJs9WpZ2GenHaHJ+CibA"
        + "4LNX8Jwgi0HTzlcS6Of0HcLowEnvmY5e7YUeo5NUgnOspu9jqkbySyfO82zMi7wmXSpI6YaW/2R3gvyrKAzUXQGfXQplFnfEC94F"
        + "+HwKK07xoWAES9uu5zwsVLkcD5RyYjW8msL36vTpsPCIkyeUHyu9NkW/Vou4u4tBvy0g2wWta+AkJeGxaUY1MXXlOA4Kyp/jyQg8"
        + "3Nlqu+ZlK6Xq+H8DSM6Dr0jzOzbmi5wCKLKTL/TAGtT3vR7TiJ0ZOFfJKW3fNEw1uPpfyAkgmuODnD0C0gkg+iYowzwTBaR0SVAM"
        + "SWBwL+YNSX6lCcg6qpJ6LRDe6kPUFh1piu8W59n1CTS7b+xRzSGZN41/Hgs7KIWA4kNTuw9S2QJuQh9o+z5gRA+qL8ocoWeEKsyC"
        + "3si//0CMZtUdi1eC5CdnuKT4";

    /**
     * Secret parts whose numbers are mostly not below the modulus: set; SHA3-256 of ciphertext with secret; what
     * opening that ciphertext gives. Inputs: "wild secret SET", "wild public SET", "wild refusal SET",
     * "wild message SET".
     */
    static final String[][] KEM_WILD = {
        {"0",
            "70485efe74f0c7827d74d8bf6352220c07f929465f2ca51c0cfb9e504be78aa2",
            "8656ae2e00d779a8ed1dab6841ec54fab354ee14db97e116d0fed9fab17307b5"},
        {"1",
            "eda880171c9480fb2a77d5ceb46af878494ac3ddfbe62f6ca78f37a871fb3639",
            "787175d4d98c4ad5bbd6defe169f5ce0ca6147cab2664209edfe8e416030cf9b"},
        {"2",
            "4256cbc42a8885d0dad650228316a432dc616e681b93527690efb07fde71b564",
            "c87469a391c914b2ec0df8428e173f784674dfe45036e3222cb6957d79354e20"},
    };

    /**
     * Set, case, length of the context, length of the message; SHA3-256 of public and secret part; how often the
     * loop is gone through; SHA3-256 of the signature. Inputs: "dsa keys SET CASE", "dsa tape SET CASE".
     */
    static final String[][] DSA = {
        {"3", "0", "0", "0",
            "d9e2a2408c15c392ecb883b9851b29b194f25c73bbbdef464ea10449ec73df19",
            "a2757904e0d4500f6b8ce0ba6073ebd3a888b5ac62077f0e87c7311b6db7348d",
            "6",
            "e47587955b9f89b9842dadc395e57178fdee61213334299827de20c29b00711e"},
        {"3", "1", "9", "70",
            "8628a865ad13e7373eb513239ba13da903184021019bf533e52d88d7c3b6f591",
            "ec3c0b6a339d15139128a25695bda50b13ab6bab012c9033ba5ebe6cd2b2029a",
            "2",
            "3943899d6ac93f6197610a3109b4070aee4bf157afe247528a467e70e4af8b44"},
        {"3", "2", "255", "1000",
            "eb6025b62e169ee85668caab2ae935a8142be235238df26f205bd5e996298999",
            "9301d315047c90f0ce75fbbdf672a86edf65cafba03a70129fd3d14fa3c5f0a0",
            "1",
            "835b366ee478f132cc63e8df2253c0dd284ec3a7d9bbfdf7b1242502f9e791d3"},
        {"4", "0", "0", "0",
            "5f5f7ae79a4e2c5514dc9bf4829820aed4c4b0ca857b92a8acf4b7f795d28c97",
            "cb00c304ac512bdd0596034c9d60aef4f0b89d0b6a04a3ff97a8cbb04217fb56",
            "12",
            "cace9b4236141ed4706e4084ed6fc680508a28d2cd9b5096f322afaf543582b3"},
        {"4", "1", "9", "70",
            "ef2209ba32bb6ddb57cf7adebb46105a7c705e8a2c52d59daa3e796482eb1e86",
            "193c8ccafd8c27558288e5dbd64dae3ee7d562a5a569184cf6e5bc6a0e8b1772",
            "1",
            "d71d6a496f710b4449b03b9f6d7b7743f96cd1dbc031217d952348dfff4afc43"},
        {"4", "2", "255", "1000",
            "071c8f2975ed685b9b524811a232eba51c799bb4354170c5e43132f6e0c35616",
            "a08598f8ba0b8cdffcb384a4631aa26c9b31eb5707aecd5b49611e779680e76a",
            "3",
            "b4443e1239b7fb47ccba731ee7b030a539e2b369288acdc0968958806143df44"},
        {"5", "0", "0", "0",
            "33eac11620766526d0f3ca2b7d2c1dcf1ab33406593e147e7bd0f5ba5554f65c",
            "1308d1f43e87dde5574922b8be246e16ff9d62ce9c47755b1d12cff78c00f1da",
            "10",
            "200da40797332de0b0a4780c17e35839ca6fe500e46fe83e5c134f41ae85645e"},
        {"5", "1", "9", "70",
            "6eca91dfed57c83dc01f0ea8df0002a1e17acb7b74c03f74bbf3970c2880fe79",
            "84a8d630e0e26d17f03dff2129e90ee5be5aaa89a8832cd770bd9e7e0c241d14",
            "1",
            "8913b7740b7ec57c299f2cfb4b21231cbbebec969d56a506c1adc019cfe0bd7f"},
        {"5", "2", "255", "1000",
            "4a696c602de320390333ac8a021b996cbcc3cfca133ac6251a03c06029badbd7",
            "509d83f2ba3a1076eb464d67bf276e428304d9cf1660b6efedbf4d7a18fb6c21",
            "9",
            "1f7281f4062a69865dfc8df7e8ea68ad5c51f1161c2c3828625a9caeabba6294"},
    };

    /**
     * Signatures of nothing at the edges of the loop's tests: set, case, how often the loop is gone through, SHA3-256
     * of the signature. Inputs: "edge keys SET", "edge chance CASE". For each set, in this order: a pass is refused as
     * the answer's norm is just the bound; as the rest's is, above and below; as there is one hint too many; then the
     * pass that is taken is at the edge: of the answer's norm, of the rest's above and below, of the hints' number;
     * last, one with a very long loop. Then for each set: a pass is refused as the answer's norm is just the bound,
     * below; as the rest's is, where the last step is the first again; then the pass that is taken has a number just
     * between two steps; (sets 4 and 5) has a row without hints; has an answer at the edge on the other side.
     */
    static final String[][] EDGES = {
        {"3", "47", "3", "cdf1bc3e4fe315d11d7b71cf64bffe7075c2f5bb8079ea9f6c7bc41ebe409718"},
        {"3", "50", "12", "c6725fcb7c7b9ef3ec258aaff2bee3261a05ba6e1e33f1c84400381e89cae36a"},
        {"3", "28", "4", "9d63f2537861f67048144125029077f11af03824f8298f11bb7caa50ab87f1eb"},
        {"3", "151", "6", "3bad0aff35145828b384373f9124c2e152032fc7b6cc9d653e78ec4f4b96801e"},
        {"3", "67", "4", "219266a8ce47f70f218b82547fff39d20f244c7960250a7ae8c157d4a5f15877"},
        {"3", "46", "7", "2e32649b4b8702a9de3b712c26b12671e95a008e50186f0af4565eba6746ab60"},
        {"3", "1", "4", "8010a1d3204727b1a3b997701a0ad174b5d9aca0008b36eafb9a6525e5c0a893"},
        {"3", "693", "1", "d3f61034bd53d44b6a74a2e98b7ddeb1d60e9a3189da715bb70efd24eed66f54"},
        {"3", "23626", "42", "4e4a33591d1456f1e403a7a91c1fa23513a7258197f76f8e148c622b4727959e"},
        {"4", "147", "7", "d49a8e83fcb0550f36922aeb31fe92c25c03aee32fc91e9be035ffbec62c9867"},
        {"4", "68", "8", "1f7204f3c112241c6f0a5dadbc2befa95af71d5d0effe9755ef09dc21b1d6280"},
        {"4", "420", "3", "2e8d64e5b70f4985a51a26a9a828890d22f71a4bc21ecaa7ac2bf7050ffefd96"},
        {"4", "1043", "26", "76bdd1d9a336177c0db73a02f735588daabfacf8ae611237990d3ac99c4ec4df"},
        {"4", "76", "5", "98e60d32da9ed2b428b1d5d4b968f77d0cb5220d33f7365630b24077a387614b"},
        {"4", "207", "7", "f9e126f3ca2fc872a6515703811a47107d5d2266d61f162520b95d789695061f"},
        {"4", "80", "1", "1594f0c6106c40622a8279e6303a1d8a7cdd1ac5f50a1a88104af19f614030a5"},
        {"4", "322", "2", "f96ddaa3325bfb6381fd44adfafe1d929381a1813862e5ac7f217df95c4f49b3"},
        {"4", "24897", "71", "b8a65cd5b81f0910d7b0c64a5180dcac9efe0feb3ef81faf4e44c19b99af18ac"},
        {"5", "592", "6", "8c36e2dcd7e01ce6de4d39b69e095bcddf13781be61a40ccb249226c011017c6"},
        {"5", "14", "5", "381313fdfa9f39f3daad10a13cf3bd082895535b2066651e156fa20cc3ddbe4a"},
        {"5", "51", "8", "dad037ae9693d5abff278041baae7206ca3eeb0a029071e702daeebd67a0cead"},
        {"5", "73", "5", "4149cf6ab7c6efb22d43443e42670abce5bd2426648e6599627958edac362e8c"},
        {"5", "201", "1", "d246cb8158a240f28612b51ab4ed1953db881494a1abe032a2b23a5b48274e25"},
        {"5", "18", "7", "304baae6231f310848218d6a34716f5e68251b2c6da14188763516211362650d"},
        {"5", "232", "4", "b791cabbf18ee5047f4d177d9fc5940f499ef7a0ab8410d1a849600c2e361e06"},
        {"5", "429", "1", "5ba33b1071e8adc74b4cde2e75ae48099c5852a0ba176a01d9a40af80d08b24a"},
        {"5", "9736", "38", "321e509732baf9f39f9aa148d9c76ecccdd792c6acfe58b13278d24ae9d6e3e2"},
        {"3", "55", "8", "fdd84e769008eaed450c4c02f60a6ab8881bca6adaa7a0d9808f17176ea2649a"},
        {"3", "185", "5", "684cf3bede7c75cf1b3199b57ae31e700018d501ba601675144c759bb20ed3d7"},
        {"3", "1053", "2", "c934157d233f4f81c25773c90c68c9788de08046deff7026a0ba4f4b350889be"},
        {"3", "197", "1", "19fb137a6871ab3099293c88c309996db24e3246dc2c51dd0711a04969d0ceae"},
        {"4", "1098", "4", "4cc269a94f1853a6b0f87defee71b6fd3bf165df523da0985098708dd56d7c53"},
        {"4", "18644", "8", "eb09abe6338265b21003d50fb04c315749a22a907cc7e86d1de762622f66099a"},
        {"4", "108", "6", "a95b4b554a04666927ece297f9b154aeaf946e708a28c5342f60c4d38687b85e"},
        {"4", "13", "3", "19524dc55900de4115f6e45d8836233bd2435acfd88a0fa8c30b79eec3435825"},
        {"4", "966", "3", "58b653f89f49e80b6f1589f72f72880cbfc919b05b8f56f91897c65d63e9824a"},
        {"5", "710", "8", "8c4d3646292071d101cd15517985fd678a5aad05416187a6c8cfc12d46507a11"},
        {"5", "1721", "7", "6717610f640e4c80586b3f5cd2d7b40a05ac37f074c8b79eec1dc2f036e6a499"},
        {"5", "114", "2", "5a84cdb444f68cad4103638c52b09ab799685e739dbf1fc86a07bdc13672ff96"},
        {"5", "52", "1", "7b4fc174f17f6b329f42741d285d169a96fd8b221037a644bfc5692b718d298d"},
        {"5", "539", "5", "eea893f6d47eb82a455599922b58f89270ba835c15b17defa55387890db4cb66"},
    };

    /**
     * Signatures of nothing under "edge keys SET", in base 64, that are right but for the answer's norm, which is just
     * the bound, above or (the last one) below: a program that forgets the norm's test, or is off by one in it, takes
     * them for good.
     */
    static final String[][] TOO_LONG = {
        {"3",
            "ks7KogOD85OQHA3sNfFBEOGyR0gL2Ohk/9Dpc+E8059wXIo4bodD4EpNb3RnAFRgSBYC8dh7XCjOobKnwaAk5h5wbHV3syPrW6V+"
            + "n8i6By+htqrEn3A0pG9MEXuW+D6XX/2V5fAE7oyofD5YehaEpFkWCci2lgHhKFn0VEQwOLjINyqgKZeX5o/zY/UEH57mm19jP9Ps"
            + "kkQb5g1zzSVAP3sFiztFgiG8d8vOKvbpSda+IBzUOk5WG4vueoGFZ83Bp/AYPJ6SpqixkVuLXWzfTCtvxMuQneNk+ljeej85I6fQ"
            + "L52VtTHuWalu/XEtjv74FjcMIzP7xQiPpU30Ius4NCFf2K2Xig7vLgoXiNPU5vHMhginlhHtcD+KFlGvcyStyzIw36IKn3KqsNjF"
            + "3/EhujHqBcRpUmYFu+g1UwPwgK3HmdhudcbzAQSMFLROcck6CTquSkIGaXV7DuTTwnK+liG2lCcCXlEgwbxHJ5ds31Bg3DDGNPl2"
            + "vniXZwNUPi0X2DNnqBfVbudRRvcpYkgkph/xgdO3lxOsAeIWV7RGam2oaPmz2zpfHFeIPjBtyk0qjBT8IDFOAChZY4pcYKMSbb4b"
            + "BYQ6mfVMqpPpqSallCwB4ZLwHy+KOBl86bmmP1Gdq8J+eTPwE5tKkFL3+TGdBdw7f5PHjPlVzfZ9vJ+dX4PoNaFJzoiS3PW69AFQ"
            + "cb5tBZS1CNPkyVVJPehfndzv6nT+F032eqE+L4ZmOm1NwCu8CNDnKkOwKFZLng6Vk5wCxSwm+1HyU24QjiTB4RQkrCL6N7ySiwGm"
            + "B76vqdv1Tt1cR7EvaVWY9F9/w5GxJ2uoVJZdXjxkFQFjKWFccYO+0mXCSx00Rb8/p1505wV7mfPHsWB+Yj9Dh3uLnvga99eqtN3T"
            + "SJ/MWQWaSZRxP0yeKaAaUAMNt0/AJuzCiL49gcWzxcqt5N9RonhaD/J1nsLS3WhHt+YtO690Lyq/HJAAyvhp9b/O75jkB4bmG35f"
            + "XMAI4t2ynlBlVF7sgSur/2yH5ddhSlVr4BdqxfxCftiW/eDatKMkDgJToWJGnQXWMSO+O7Gio3p05asSjJcxXf+H5xjlRLjH7Seq"
            + "1P8Mzm5cBijONrrcvnjFilwJzRpCMviguG0hz1wBq7B7OpcAp7LZUHY50a5DE/xC/wnrF4yq15jfjavZqompW1Oeo4JWpRF1syTx"
            + "uPwCfywcnvtTimY8bQijmMUfAez1tx3nekuMxaSlzrwnki+d5bfo6fDKPqdUxSbhc+89u8Sw+gU6AyhCd8Y9Oq6E+tfdONlFDuED"
            + "6yNSw5Ok1phHRV2T9C03d/K7mC0PjlNq/5PqOJDV5h/tTsZXt0awihqUVNlOr4fJuqsjWVchjKGKpB6Eo+QOgZsIT4c6b9PyXIhu"
            + "l8x9wLLcX3mKRW0xhY+GzkWj+EHRQniI1KESRUM1BylLpFYFkStS7pHL+I1X7goHzObhyKRi3tOaKgRh0/rYx4KHYVsLmfGCR+/N"
            + "xZ2suEKc1Zx9keVMKf/ms9n8gsTs9eFj/PDryNXuxf4XCeGsGjgtACW9UZLpvMBKB3vKxwAH4TEaQasj0yFnex+SCMfHLhT4l8WC"
            + "OlS+td1yOjIttaOU6agYYPTm3qbkaDfQYstFP5D6vyxFgIOhBaYuP9HyQExwzO+EqlqPFzNbdZ2bGTRPX0mXTRMu64hYrxXnFAYV"
            + "dR/Bx9DXVIjZLfKWCSVURdGcRDKhYskWxE61K60RFbDviZ09CZKuI/skdneOD+pM7J6o76kJSTkqUqfpVDOJtTVxpTQZ7xMPbo5t"
            + "FZxnp+MgiLTPTXV0khNonWA8LCEB3kiVD5x8Bm4HwziAoSw8PnNepXSDo87ZY6/Z1/wBLf9djmV8ZEIwxUCPoOAjtM+/QJxKCKbj"
            + "kvYgqT5WXGHRIxd6BORfDkuJe9i99yEVBuDcpxLqUjWtq3B9YNgezO3IPqVMQ8wMENPl+gjm8WOdEb6t1fTuj5waRDqG/zN6N8g2"
            + "qhvCoE3ccRv4dOVw3DGgQiYYwZdPi4quE3+hWuLSvoHHqQRQl+9Ol0Q3OhtKI/kb2nKpU40y6/DlOjzAX0iKKC0Sbit7+M7HSOf2"
            + "4xdRbWCfdctw6auCdDtNF+9+MdxXbRAVMleztKqTDcRJtATjqw4ewJyANayS+a512CoMECe7oEiY26+aez6S4zOeeSdmNm/s3IvC"
            + "8W8qq3kcmFtQCIZBiQNtSlA5hFIU/R4eHHbEyIYERWBnaV//OleMI3OqdchRKneGFzh04iedJ8dSIP+fgr1muUug47Rz5NVt1mEU"
            + "9NEwiq+8HWcvgtHXSThRaSIy6IG/+vVWfAydfswVNAg4hX0BkaH1tl0hzpKKUpDnstwEbyodWo82dP/KCVCynKymKL6n6JyXQsQY"
            + "sh+Zo95bZYvhdbbJNmzZBC+NJj6McY/bK2d4O+R6iETu9Fbz/wBGNVNq9aMjKxZLXbBoab0ZkPzq973UALIPfVkzagR4hltJlrMx"
            + "MTi8c1xmPTna7USo4oMhG/CQZKGr0m3IUvZdH2YkWf5kJdvUL5kl0ZA5RHdowUNtCp4vxciyokcyWh6lo3L8/2REyS2pZgxLHdtO"
            + "xu3FhPc1TiJqzKhnjgraI+Pg1SwkAPjrD3h8I8gOlOgXjMQ4oT2AtYVRSFTSbboJTx6R47tAa7/aXguAJfIhpLRQHP+waraaFaLa"
            + "6UA2c52xbbLL1xm/ZRe4GcXYn5Dya35Rjk1pjEANtFK6j4ITPP/r8BXEJkaMFlGT3r1dqr2HPMY8G7tvzLGpv+FBRp5ac5mLKPIM"
            + "LDBk8wcaNMqFDiiGaxWiPzyIL35RFGq9FkmZng8tiUjDsaK5rflwnTC2+Gittx1zavgm2dEkB8CL+NfecOkj+B45pfD0Tk/rViTX"
            + "2U15h2zkE/rJAFrDVSY597PtJ/lJERMDCCXC80vwaNkgmRF1dK4UhaJ8ZuIoiOCvr65IN/V86V0qh0mOTGQqs7YAW9Dth5fcSpLL"
            + "2axj++Jb4QQkauK1MfKRY4aUPhk0qt9NRWIH5ZPY9Oa1DnomQRf4m0sXoxNPBYe0ks/3z+eNXiq7eTd+2LoDXN1OYl1X+tch/W5e"
            + "FONZGNm+HyoOxFAUGx5DUmePkZulqcEIDBQeJDRGT2uIjpu+zeztGhtOa3KNnKrL1NXZ9/4CEDM2Nz1SXl+DiovJzd7l8AAAAAAA"
            + "AAAAAAAAAAAAAAAAAAAAAAwcKjs="},
        {"4",
            "kvRPrhiRWtzJmCBtRHp3rjvHtveDWlYorXy91QFJs6FVmNswrlk6Zijf2WQLgH1AetqFmZaL1wFvXLBrJePfCjnwfYN+dmG7zjJh"
            + "T7eUzWcpuq27B022Im5nOjjZaIjbykUidBEH1x+AiZyVmPaKhyjR5o5GY4XG7TnFqjtwcCsZamRUtJGZz8i9CdFmjK4GZ5LgduH4"
            + "B6Y+qu7jitFvfIixKxYUoytgKVjDKFzuE22B6tgFvp22lQoJIk/xFjTyrYg6IhKSLtACW2xugyfWf+xZfuXxZfYdDSeTXMcq3S9b"
            + "OYWDTjSLu2Tb4xrhXlue+6xl3zLTT0N6Rqx+5G5Gr8FumW37exyFxMBlvl1mg1YKFOxXAqp3bP1bsAfoCGhdt9pjFAWZPhnMKOvn"
            + "SQwAnqbfw+Yl7GW/hazKHtb9gp1QnnHH6zdMc8d/RnqnufZyJKdrAdIkqwSDOz5aNzy2FyJocUtGZuNSBI/niTil8r5nziLlJOEq"
            + "yC+74ZwRq5y9XLYKwH6m2g/bCNoB57WVAvNRYpzwZR0ghz2RR37KUStyTL6jiJPNs2bFGDGgy0MAJQt1kzq5Cr8QGMdzRYsAyo93"
            + "6vAWwJxZzB03G1sJ9ootPc+6zB2hcjsX8EsMcnSuAz/MlWsgOXmVj+RuhXWJDfnWSx80R1/hHW6CZnXb3NJqP8tzrq9o4abQpi4U"
            + "VTvg93/rP5q78WXOLFCmnYjETNx61LvUusU7QpYLNTsgzlzDgyTMU8pK1muqhsvqNMOdJiJutDB4fXESjWLBosd/2R4vshzFoto9"
            + "CsBYOxMTGg5SO3iJkDUeCB5C89WmQtPN/uCe8CyswvF1eb/Z+GXUtXknnCCddKdl5jdQr/+GqSXgt0/iOPcNe64x/PUiH6kW9gX5"
            + "V4oQ/t/Ve0Jogb7SduVk+WghNWgGlQr5qiVhkpNPPzXdok2UsH+Ju1sHjN0wlZBzw0HYrN7Z9z1NBWNos9kkVdNGWSuN7/+a+dib"
            + "ml1pQFPuw+9FSX0lOIeUHhUG5lb3kIQ47MSnykCSMSlqgs5zldvsGGKWii3eOHLm8b3gTtUwcVtl7utY9eCPs5/VOKCZ+OA1CTgC"
            + "8C4SiKWXAnvrcImi+oZKffSOAHvaPmULDWMVUElh44lgS60PuH3xq5sHJlvDL+j/LBxTgNB4ELQ/a0PKbtr+I9NsNgQifZcZb3C9"
            + "/YQpurerapMqKE4YIWmsJjP/nfhKO40TbNxQmeXNz4A6D92+ePmD+ZJfzAcrU5k9jR6hF+l3hevrHMFCSlctKsh/cMvBueleUvR0"
            + "ndvatrBqNoYUdPQHV/ndgUuvnObk6RljJbQ++ivOz6WA7clgzGPwXgT74bRJR7S9FSWEl/zsT2R20hl8a7GCEa/FGLnZ4xIuF5i8"
            + "cTc7O7Il+dViwbYkxEjyIlo/BdetT4vMid9p1q7bIqQueTrqZ7u9rjyj7orv09mvyQsiJWjKy4inJy7QK4rjWpXz79CVXTTDt4mF"
            + "PI+Ukf+lEiooPCPzdNOPHY8lWY7dRnwReEqKbVq/VkwkCWR9ysX1H/C/IRHgk6lXpR7oBtyIyBgipIOYyCF/GIkZ4l0wBYoZ2cbJ"
            + "UJOm1Et8b5epmYfPU/dtzUMggf2X2XZtCH6DFXIdGCoqbDAAYVQt2k5H6amBeQ13VL6xGBlbIpb162Fr3oJIjdWfdE0aSJ2HRWOw"
            + "dsNXBB0JCbEmV27CWcaj6LuSs45rnA+VxvIWLgC2lwKV+hJCDEXWzYpXj7jYCnUQngmNnW2RMVzUSM4/hAaLHUUpi9grQdK+UD9u"
            + "2YPWS8mWID6hNxcS7jN+nsqydRnOs3ESAVNUWx2rC+bQloH19ZtuoTBdgfgF78mG5bb8zpEL0KHYxPV51S3ce+wSApCSgBuUvMOB"
            + "luzP0D3mLehIvkar4I9NSuFXQbsqyiAX5XPEHXFjGCOvO4S5aWAsCjeSZo6HsR/7m6mwkCq5dCmLmb5GP5y2BAaMVR/82c/h9ciG"
            + "g3xThMqOvr6LlJV8x7+SghtH4VV1yu6IQmM1jrg3OnodsnnXG/JPIEbCxnikWzJHYWbUF6ptdfkp9zUwkiwOJiDVI4IO6V2qo+gA"
            + "maGMUWzlnM06nssBVpQGpXuX/sfrFZ+HiT1fGYeyoH+F/tbtghZp3F2YPBSRQtdHjbY/UMVQNmEkYV3UHK09tj8dWaARQqIc6U0E"
            + "+o8h+MhaVqz/2cRbMTRL4IT3cCQgbGoy8Sd554UDihAlH80VT03ksZEcPIzYMoEmKYAOM59R8odYJr5iRZoqfudVu8GR2KS1DHBg"
            + "Z7DRMBH/S82eUYnbwnbC/xjS2p04Gq1laiWmDL9qXvxi4N725K9ACbeQ1QrPhD6budgLChtaleWt2f/HkBmTXqTDdF7luXSx7f9l"
            + "7LDi2HvsgRyRJ7NMgFgYyqsyhJnwEzP2CoFe7LB1ZSePulZa5k6S+rxxUUC3r3PZf5x2rx5TU/esWeBZfMJuVlU9s2BiDsKk3/tQ"
            + "p+hx0EI+Rq8BOGxO5pedy+L+MCXG7Uy6xpRzqHIHmSgqo9fmcspkS4Rd1hEqtxtRlWgqE1ubwZj1MuUFiom099lHJG5/Hl7qNE+a"
            + "RVODLDiwNXA+LWoigdZXePacRRQc3KL2ymWOiI9b/aURgKt+0pTTrdyNPahry55NCzD//ut4BaZ+xOSoXJ7kjX4WqnzPsJNO03nl"
            + "ITmOzQmhxij+1KQLkewM9OcWVJI3493yZJlPumDKZ43Z+1YF55ZmblKKOXi7R59Tcsr3y18X7IV7E5khtFKdWTbHmj5wcdn6Muq6"
            + "zvHDOd0oUi/IiqjSH9lhkOQDulDjDDs9/LvrVHtZLkxGig4BTb9tqtNMlTigzY9l7N9LgBnji8YH9a3Y3Nt582IJ2+OJ/P1deTGK"
            + "C+oZZeVkU7SYV4PlcMg8AhHBmIKuLXIELUxm8VaTLgegbT/g6IjcpaC5PWTEHZuQtoeXyf3af9clZ4H1QV/rfi3MLdKA2nKKZ05W"
            + "E9xIm553cX33OfhuvRZ7FGw/Yrkv2R1/A3EwZoeMIcna2kHIjRCAPD8ZdoEr1zXhfQlrfpbnUSPV+JkLJZHiPXhMAEqgKcVCuOuq"
            + "7l9wBGRU90Ek71GQiEAVDsX29lhN4ZYAXRhKCbo2BmM1CQYtKwCRECJxN0nIevQ+jsxzpRKMdmteRzlysaloFJdVqBu+/4DmrUmj"
            + "5kxYud6NiKR8i+MriSie5QN7T18glGiIRLYpoci17NBRs2XpZlVebmTbBWnCohoDfE6YFBdynMdiuexPvYKVd36aR+2/JWTWWOQ9"
            + "Fk6S+lPPR/NUoBB2ABlDkiosQW3uuu8490bln4NK9AWVhRXT3cHB76FXKh4/eqTY4cZTfoSMInypHgM+Xokd+4zhaa1mE6zL7B0w"
            + "FRBTHnyqa6YHXL9mRSEzwLubodI3nYjgcuaLKA2ZKeMiA/6bdiCilykGka2BmKWfiJdNkWethRUuuvSEPSnXSojNJzy/HYFDSJz5"
            + "IEOlWJgYIJUFbz1efBmBC8R8fVcE/ZzatDlyGQ2d3I4yhORYMQ/msmp7VfXCS61TaPI7RP4EcNrC/X5AghIzNOIguPdFFjy/CrUk"
            + "CHMkcOUYs+h9MXYlvVWOvB7/UmlU6btzNMARgj/fTGFwJUlZDIBFzhAJIMn7NAJULCPRwUJc+I+Q1414wViOoik1HQi1R2fGcp+y"
            + "9XqcOEQEbnDAWDCldgsza6vAVpCdDpZi31nrm0CTbT+0M9VZU4Rp3MwXmOAi7Ylk6bHxpcuyFhGc6VwnhtoS0K2GECM95SBWJJyX"
            + "HBZSJqcjkqP+oACHP9iiDLpaOxbfEx2KT3NcfM7c8ZZQgwH6vgVah6MMHXvh2VlLbiFb2zc8h4DqMQlXdTN5XJIi9IzX2l+peuvQ"
            + "CptmFheQ+YHAlLFRJ5W+UKh/84GV7LdY0OyxqA7krz9zNL5Kuns2PxxyfAv8XGkgo8YgJJbbXzLIiB3XVP2krsRCFVkj5YGljo2B"
            + "c5DPH0TImRIEjPPRVri/Y1ZJeV4eIsn0bXbwhmzEFT3J+uYShy55KXxwZO1PVS93jIL7HYCnPin8/i9wsLaXERrbHNKl4SoHq25Y"
            + "0EY16nKSBJh4+3ocuIp/BLgkYQSCf/PVjTHyhz9wESZFDhEctM3/IsyhDASLX7XDkwbQn1hqIFqvfTPWTVa6CFaZE+1+Jd4Vw71S"
            + "N7MFi5rK3Fw3fjWFBWNVZG5eWJQwVUUEGsM441utc4xAzPRNgHoB3j+ba2dY8ukcnWeGLoyZY2wJWPOuXQyKRUjh4QUF3jb5ep83"
            + "nupn/nXA0pXpGKa9omp3lRR11BBSFw2G1twABBwkYqGuytgButXeLWl1d7/v/wxDXbbH1/wEHz1ueHv1AAAAAAAAAAAAAAAAAAAA"
            + "AAAAAwwQFx4l"},
        {"5",
            "1hvFxuavP8UDT88KuumrDtRxi4U/htzX19C+Yw2nhaLp1oaSE6ae7yehU3xTzWLYEQ1wREMciH3n7tBp4aq7mZ6Lz/ZsFzquPwap"
            + "MH8L0H4CsxV2ZAZivA37eFfA/4bsK4YT2lz3q6DSa+tZrFu8VZLiK53FbX7CBOoLwqmHg6jfjyyBgxBTlEJJpEV8pLoQzZ9U+gqx"
            + "Vp+9C+dxLslbk4gWgMIHkwhzncMCNJmjfc6uY6rXeCeUbirmWKbCbmQJ54zrPCsCgs8RPi965eAZvoLOJsuq51gLjYWE4c7bzgIG"
            + "2XeUZxIosRwfXZSYmFYSElLxlUmFq8Op7+rKycBpU5qPyUqcbsSVYPlPUvJJ60hhiYusS9uT2K2qhwYuMVUDoi7lbnC6idW8+17f"
            + "UlbMdEJfBWGmgBVtc/TOZE/Va/tkNNkFmfmICautUhGbPqR1tZ+jNlk69dy32Ecm8ucRe8mFJnkkhjN01XOMzZPqhAQiAWZJ77be"
            + "JVKVcBirPPwoP+gP4iskOcgfv2FDZvD4dSfuS/AdB63xkcHYlEbg+xUo2aib9VQjKX7yMYRzdyjUuZfZKAxZ4s2nv98WTgU5c9Vo"
            + "wQbEq5R7Xl5Flf/jwIlZYxz121+5XylkAXVFQOG8Up2TnihDjwcAGWsBfQS5DlfPe5wBFC/MTOfDQnJ/e+v9Jt4fAWytO9dSVigI"
            + "eM99AEauaFpn9Fie7oe67k7EErzVN6Bf1/gFsdZMNDKYnXp+t6eKNBb8Ytws3SZL8H/alk/h8eSTsOPWArNsCNaJtZfCrMMAbSJQ"
            + "mAc1p4Y3eMjqQqIhDCUOVQln5gF+AQotFme/kIyVfU3NaTwN27lsRMEXlp3ZRmF6Qj5l5Tz3gpbp5uvUs7DX0EWNvquCUVd6bXnq"
            + "3GuGj0QI/xUhn/LlHlYEjjY2ny387W99bMWEJu5wqtYicaQ7xkKKu+OGzR0lySZQza+8aBwizkjFAwpyMN0WwI0KsyUmVTv0FXze"
            + "NQK/CPCPL2c96LBpMBw/SOQjggKe6JWqW9M5npef/YkS38LGJPtwTu+0QgyxfMmaYTs1TUMZOjYlMYKA7k0J6oRooRO5zc+N/REt"
            + "z5nn1oG5/tdopCDXu7PXap2lMnY9a+BhB4yt3IcJKVk0EiDVByxf51ukx5xVs5c/dZhCjSz/WWyh7ikgdzKr6KcdXe+A68OMgf3C"
            + "GhzDJZreeXaIE5nsTiXtyvb7EpifICaiuGw2uUkTpSAxny5/zmHZ1C6GVByaKsC0KMGoODLRkizyoVKM1Y92eFn4+T+dpbfE0sD/"
            + "Y5kK3sbdcokM11f0sT7Rz28qgwuFTCYzUrxzX+1wttFe0CiyFJUNA8Vs4qNXU5B0tHwvs2LRm+1eI/fY2OGOSwAPPWUiBw39nZt+"
            + "h+AQ6n8Yggd/YZ8hiAOv3bjLu3Yyu328XaJ9dLLbP9HxYlJJdf03+tooEXBlcLQihGRh5Zle/bMFAHQiPNO2cYF/dmEUT54d8TaD"
            + "afDalyIOrK82wwjarLi3n0MmIBNhgMGbYeAefTBue9YabqejDQKZbe7JeX9st2FnAuUjXSXVtFjMClRnlkMXtGUzHeq/lQ22CM4k"
            + "0TiQlKceA9vWMA+h3/Vket4VjEAXIQJKzM/MpuI7/dJtwIggArOJ9O3J6NodGr2766maYeXzgovrZJnt6J45PYrd9gWwzXdN6ljG"
            + "Kiqn0pn93dAGW95Zavvmh2o3+tGKtM4SaUPz0O+mh+1v/v+Ddf6gpEGKWoY3nsn7N3S9JYVN8b4D43QcaXyQnLzh9Phhx9pYWaQA"
            + "MSrALaGriqk0FMl2losSlPX2RVgWNHb8YpmLpxKTMafS88A+CPaWqtjU1TlOKn8ysckFFxn3wIsOk1x1bPjGPiSiPG0FPE1XnbsW"
            + "9JQS+33VmHQhQkfrv/Cc6eHHwZJqvsQNzwSJdzt/+fOQMd4vnQO4N5VI9h+lRUWaUDHTMtyIqeJo8Qt9SHW67QQkYzSNXgry4CNR"
            + "2htFjr1Ys50JqkpYLZO3ZfHFGBIdcxDCXy0FLl1uNkApbpuUiTIiPZOavpFsesu9yNoBjm0MUKT628aiRfhVfUQFxIcwLdbxwTCP"
            + "7TT1Vv4a4KLAl+2oQs3PaHCwhH95P4epOaiRTv5cUSDEPrlWe5hwhmovs589z3WA83Tu1cH7d+Ff36CWkxPFoh+PpAEIdbdCWWO7"
            + "4kRqYYSpBdxQCjIsL61PRaDIB+m6pzGbuDMSd/ayEjAcmKD9auc8Lse8mg1Yqh+AQGlDorpsKPHCV0LXvSx6GU7GTbuMyl337XRM"
            + "/vgxr1xStcDSo/OsL+ReHgPLVq0ELPOAoW2MMjqFY3d/Bf5c34suCDeD8Ag6fRl/q8MAYk9xKPXNZzgLU5fflH782AYN65jSwS11"
            + "OVb/jEwbw8vUdQCZQn9Y8vhwDGLoOFkBWJfNPUyGxLFsyWEHyeAHctyaNa33WEY8me5MyaiSpUgcdyKhQPGeSVtNEYIs0bdbPer1"
            + "kqaO6pjVQtuccbEGUnrLROdogGZAh7x+jN7eJTJqyx7tgHJhH6TgJ+NZk2G8aRs7oNVSTuIuH3d/1Ehngw56LOL012vTveD+XOJl"
            + "G9SuLtudIdjFjqjIKoyzbEYcAD4nK0Vaf5QGY3c4vFSPdONKR7OzubIkOFQAp9f20h6OrW3/U0JL9etq5pvTN3DvR52Gzq4Q3m/t"
            + "Ke1bVV70Z1KxdKu+XyGHSqIhFLQ3F5ZZ50NwYfHPuq82e5yqANetGD8EWEo/jsBHs6IAstObivLIXIyiWjHFddaUIO1VBSP3Nrqf"
            + "ZaUcyNkByOja1JJhK1E2tkfzriGOhw2t0KoYPnJp5dcQcD9189nOJmaEUXhH1dkawM0RwVizcaROvgCPc92x334F7DePlaXSCIX0"
            + "DX9XtXvnRmRbHIkVs2D/04dwms5rnRrq5a1yWIzo57sIVQSzEQGL5yTXvgiMx2Cal5yZoj6gu0XW0U1AunJM+zmIHZuwo087oO9G"
            + "xR4dEHopmByECepshOWTsUK0LADmX9GP6/kBWPs5NIzII4u3prgUt3XZ11qRQUX9osdLO+3Qs7i5WU0ym5k+/9H6xwm6FuJ96qJw"
            + "4gD9fszfya3Ntacw967imO1anwsBFYS2clDSkBbao6CLUPSDBjMvcbimuJ71B432PH9NC8lj7SpSH8fE+NuXUS+F6nd2aGNKptqn"
            + "J+QU+lRVnt3FI0dEjOyhnP29kAm0+ppSTQ2jyiIMdguBrtdRuESrOrBsT6hYDHyHJDyhZDfA/9Y4gQWpn+ThowbBv/P3kabrccms"
            + "4Wyur9693NMP8zyhhnERUMq1lADZcmevcYG2ApmmvQDleef1wUOeV5jDkXJyhunce3m2n8XyznUJNnrQiTDWrOLpWz02tm0HIpES"
            + "v9pY1AjLX/ZQs8FMUNapSMqVPHYIPzR3+i7eXr1G2hXz0c9WftpPzi+nSO01wyHoY4EFYIr7d/YpL9dARqnonllKagabC4YE0xun"
            + "0CVzl8++4zcIQKCpQEzqtvZMut2YBIvwVd9X/Q3rdnj3iG+RZgLgGf26unW1MWMtjZh4RhZWLZ7E4v6M2F2EGsX20y5KwoILbWCI"
            + "YCj760y+ogAR/gZnHJ5uPcGJePufdysadj/Fo+5p9SaZRU1E1XNfAlhuQ2Ix+Zt0pGlGLHEMtRv/wlDc/5WpdhKwwnSaJrZ6IiSN"
            + "QxvdUMZbWYpcqHKbJxqVRL4bn9vjAHg+9vInpoYPtv4CYmMHw8SUCRqtFeBB5Z3LBEul2+pu0nkAIQC//wWP3bkdMvKPhv3FzUxJ"
            + "qn+7EcrEkp1aU1FX2O/BJ9D7Gwgd9kV55NTnhOV5FQZUUa0wd6Cl1JGLdkXUX9s+vM7My8nIFxE2rWr0YOe5+ZPxwvyj9UYZE8oe"
            + "6mxblyA3u0NtG0hZilb/Ak9u0ycz5M3dP0CCV8bHBJskjzQ68eHNAXBrL8uQ2td+CH6sDVvHYMdOBmdDeMF9M2QNrzJp81SSonPs"
            + "AItYdeT4UKOybIRzituxrz9E9W8e8MOepqawEVD4YMkMGCXJLbabhG5SiuhuoDRKxSgNFl4GobtCdtLh3NJNkt95irhEbRc3wl8A"
            + "z9clJBWotEU1uP6Gh1lcr95Dn0qS99kKFPLo/tFuvMQlgvR4DksuJMc8vPvtjiK1/fAnxJsn6hp/1dbZPHINDOc/sFgo1Jg4Lwvd"
            + "GakmZi5F/NFhRwit+YWcLt6nnAjBF6idp+BI2iZArpbL/vyD2DgmewTpeXDu4wNUs4T/NOCd1QfaLJ2sTLglG9gt/9aNRBPWh5lJ"
            + "CFthsyQjSr0GBNnmqo8AwC0n5TmFI6ULQ6jhEb4XZz7KDL7vRlSevW2G6p99bWcNy9ftvlAjz/mk/mH/EFdXj7aGhe06XTxQ8IcU"
            + "TKBarhnqlEESyX5/sWIaUbOpluycBMr4ZAOempR0LP7LbFCZCPiZk+gxdJIcY35H9iyI+HY0mtPfLuGpCRJb5SHQGEOBqrpKxjFu"
            + "z4woob9zbWRnGSLQ77JeE9GCHLx5y6gYezyNW2+Z7Op9mZbdzgWxkir7H1wOFtpTOpKH3v0EXQFiA25sHizmxbeHANdzhIXLAVLV"
            + "+YhVUnEOZKZAh/dLBAcU5NipGJW8o/pTKqBZ/PRhb4x3CVhNx/t69nt0GdpB8f/LqcqyJOAuLGy4eBurTQQqxU+nZ4Jhw5thvBBu"
            + "PlIP+7FH1lNDFUiCpZ+ptbLEjCgBHkeFaE/pW3USEBVafhUv0Oi7LqN8++sRkPwTNVCkUL2pCSANZy5masjkLR2fj1Z2FF8AkRCV"
            + "O7MaA15gxJ6GmorQbL3h0AxAIAdtsOHo78MAECn0d4XYc5M4cRoND6iRtDu6ZoaOVeydBbughhABiqrmobJnf08h5KVVvMZTGRHF"
            + "vBjXJg5WRUvbiXh/OS1uL+SYqLgveKghF6eAB2qRGcLpcaKWJbEeThp/cIz605lg9jh5WBrAwV/GxeSLcnsdj3WznNzhaqP6g4tr"
            + "Vu8xa2XXB/Z4EVcR/088armWuzl6XBcK4usC4a7uu18te9A4WsGyREbCJbvsIMmgfeYjqfez1TRen6NYLYQHUrQDkUnd4HMkgPFb"
            + "DJnlLkI5XUAHndHdd1SF/YK/XgUTBG15mt2LFhphCSrdVfjtwYVHqftsIEPcD0m8BWrMzO2VgIcbiw8KBbOqCD+rlo3oA1yFG41A"
            + "iYV3EOheC6HyqeOOyOYUbX03pHnXoDIDSiUttmxalLwO+K69n0apubyirphhDMkLvrfGmWvW25j9vVGzintn7VqDgbQ3tOunqlFD"
            + "XuxV7F21f+Nhms3Dbas/FuKE1/WsmM+ZVg17IK7WZ0frLVB/kgu8ESvRNWa2mwZbe6NPiGOk1xf+DKv3+kXZ4XjsGhZdKuRsjz3a"
            + "1SLwfkqruz3uqmUvs5O6UbwkLjvIRf2648BTPE0HX3qBXHIo+odz0BMC4+Joh6Wh3R7hfIJRa0Htyfoj3dPJhZdEnduIfOwyODaC"
            + "UxB+5XFe9OHZtpfULYJtcqbbMVVjHiTlGEB+3ZN13aiZNTHF6/K8ypI3g9YaXL98wOo2h1PBUDTujVc3qeP3SPXWwFmzewEAWiSR"
            + "dSAVr6zx1P3XaV7O78y/wr+mbtch5sTqcZ8pQnEor0ACQ/jOISMhvpOMbyi+rtasWPqJxKD48PYp3joxYVpEyLkHXyfCL99rltDY"
            + "9RrS+8IgkmwLBGI3CAHAnI/5bg5m1Pjnd6BNCLTvWUGSiheGcXKbFEZX/5WgvJyoEsegODhKeMoYUh3fUWG1YlC03mBQtmiqkYiY"
            + "SXJNONbfo7GTEgtqOtBUgRXY5buU9t2Eh+wZUNDayZLmh6Gv6DUSDlsOurY3JQclUkTATi0/n7o/Bc6Itz5VGm/DPL00fdrfL5lc"
            + "u4S1eUoo6P0yfXvEHQtj5ZgRg86zy7jeIgKjgdw3lb6j+AzP87RmH6cGIWjlGTsLRnajnErJHW9I1eDIMYTx3nU7MqlhDiNpa8Sz"
            + "Hs+eIBEgMa6wAVje93NkDTjx1UEu4kyqrwM8zRl6V6AR3fwuepY9Z4mLHKMCDSx7fMdVgbnZCRhGS1xw9hgzPluFrMHKHSmRouLn"
            + "hYeXmb3+Ghs1SHCDqK/CxnKWqwAAAAAAAAAAAAAAAAAAAAAAAAAAAAAAAAAGChEZHyUvMg=="},
        {"3",
            "xL1C/wjaH+PCq5FARyRPCmG3RhvDWV/gBMmyGiDFXrQ+euksCrIatABbJ4UFctRw6CET0hRBChRxpG60P0GH2LUl+qUNhgBVvTYt"
            + "VsvizWE60gzHSlo1hnCEZPiLDiwR5h0ezS710e1bzl6EepQ2XAqs86loSpj+NJu+w0+OShHoT8y2Gg+oPjOOxqAGaNriqdL9x9dx"
            + "JBa4xwcOyFltlPdy5gwV4eyb6/yli994msP/22D3N0JlBtU/niO7B0YyqGLhXc4u2Fk1vNcsHzAtXxtCWuvo9w3sUp/++ZUgxGFg"
            + "SjC1wZuLDZM//Gk09Jw5oKA/tQpqdbb3okdR6SGwiQJXrs0SgFsYfRDX0dHQ4pU2MJvmQXmmbijQ40IbIq26vewUZcLg7Jfu5S7t"
            + "d1PWo+IU31OlZ0hUQOAD3+caKgM8BiIt4+14j0va2ypZzqJoCUnquZuPFSM6BdOONEJzty3XySF/n2swPghvI1o3RqH5Ma0tlJ1k"
            + "4g++vbh/cdLG5GO5N0BHMoEjpGTGncIVuB7o5NcW2RjVhI6JFlHfbL5SujHNQk2lgvSpedVDoHUK3Yg2ZgZPVINKg154Tv86Kg5w"
            + "FubvFCv5GFnX9h9zp5+wRaG2ofBsuOIwDfT1/KflZU4KJOdQPq1M7aIjJ2JNUfKIZSi+kRy86H3oQCreekk4l3W/zsFzUkDMJK+Y"
            + "Zq4xutQbNi+448NUOeRnti5ptGCCYKhvrC3lF5O4IUIC2aIZVSAuVYUZe+wheZBKfvQsxVdFR5mzeXNlKs7ZbYjKbfjPBQI0tWDF"
            + "iMzxzMK0ib4JZAJLWdIHQpFB5NXXYLJcmF1uOCQRfUocglaudwByqIqN2q4RmGd+voBv5uzxRoesBrcvLaBOfRwXOOsGiiUZV5R8"
            + "wGZcOa3U7tNRO8N5A8FOW7yj9YMtT/1NPL4By9lC4dkt/wz3QW6Da1Rps1MNbpfFxceIaIYQJHTEKkxyk/Hygd9ab/fbLqnWxvu5"
            + "HsZtg2GLt1MVCvHND10m9KpUkLre+jw3TJ0IgOqY7RLLwqQoVZ/Go9J+GQf9O/jtZjCfRHVnAyE3FQylHo2SRJAp/nlHGdspSfba"
            + "ZJf0nQXwatZLUUFyZsSBEt4QfhGHgflz8dhf2PSHvpsqxpu3qT45u7zjDE2TBy6MeJ30CeZaCLAVGROseMW5XcDWqyTiWZMkGEIN"
            + "NQDIGuP0/fhbpNtHfylmmUqH6LxEWPU9JXuPoyDiRBxoN3ZEXhJ3rZ9r5ndGcTMpV2Q8RRLfxliFT7lzDS0uuZm2DzCXu/LJYZIf"
            + "m27hkTLEcT8852ENFcMEtgv+0LPBRSdL6q0MASyysVS6NZlC6BA0l2r4kNadu/otRamg5CLxvUWRQ8Rfa7PSlBXZrNKtBBZ3fXWf"
            + "XMe34WH8cGampUDaJqSAiMHn3Nzh6ooGZnd75PT1rrYW2LmNUHfCUSAKwmeHR6IN40/+vNhCzNYSH8UGVarshfgXZlhtLVrhmTwb"
            + "gV4cgaEgJEzeYcfpnMQVxDip3+OEN0F6GeYtzcr2HXQYyI3jVrwzcqVo+n8UBRjV2MhOzI8kKdMv0A5ALpBBAj9pe8pBJWjGQbB4"
            + "Wx17a9BtvlLfmVmidigpgSeS7P+LEoImmY3xDE1AMQgaZMqTDbgtNlkf6vQGl0nZ/U5PnV9POVs44x3NJTf530XSMDiQ2JOA2DHQ"
            + "WtaeRx58ie0JHYMyqLi5FR9GgNygpfG8NtlKd2HoOu0Fr6GR4KrBRk7g9v6pS7BPFyWfUDuo24hPhfx2nXqWFMUo0/Y/oOpUFpyJ"
            + "Yd1nStnj8GYWbd6jorib6DzFsSgSXpgWUIMLX2fopkal9AK+gAiTZCiB9pR3pmd7/gNEszYfnvNoB5OxuOWlQ6nVHORuY7msylSt"
            + "TPT5gUsnF+S8Ohs34CVQAYgGsBYEVNpv/a+BKVlMKBWbGVUw4ged2oSugdG7AELjtx+59A/QYcFFQIAly7zuIOanRF7oxUFk15dH"
            + "Sxz1JzOn8Rzrr9+7m4aHp6S3CWYONHKYTLYGoXoPyac3x4BZQVEZ0zEdtkjLQPFW/KAZMhyxx0phec6ujzAnFCZMYWA616SSdb1m"
            + "XFkxMqNKZLWx24GGt0NV20oe3/e3DuzaOspFSjyeQNVvZ6yJXOwi9JMa3wRDwXBThqBPSVacG4cvIZdMG+iciIgclEdFf6nglRWz"
            + "rNxIt1iVjxlGh0HZ7CrCX+uhOYRXfYu3WnPNDZJ+aVXuQPOLThxXenvpOS9Aiud5rPocfbNB4Ss2WjZ9p3LELNxKV/kz9exgPDc7"
            + "YkfS9lvolNzEDo6QCVRWmCjDu3cYf2fkkFggDI0/ZuJwOp64HZiq4IdbQlb7OnBgJpbBVbsBgPwObveUoBbklLovvpO04n1isPKN"
            + "Utmrxt6RpBBmIAoBBrc6oalaFN5Xj5pxR8KrPakJYLPYH2avBeE1UUsKnLfpkRT6Huzraq8f1zLGkcLALey3y6BTBEUVfJYbO9Cn"
            + "HTnT4gZRmlIbgc0Mioqz7gBEc1j07ZYgpb7s9fE2PHk/HQUsbkZA0AWw5Cyg7X9Tf9YctmvbiruCsEqmxcgtkuZkNFByGNecAW8w"
            + "B5N+kiqjrrF9lbGlJdEsMiGFNvCf9d/PoftKsQMqcdA3eVWK7mgHHencoeFhrYXb2+0flEcaRZFKr0epIi0cD6RVjP/tVdH2pY4U"
            + "umqx5p9jipgw5vxdNPwhcKUfJK6QmCbrfFyAs3UQQLPD2aZh8c+y0/wSpFcUMXblYUjR1HkYV4+EifQqwj4Lj8oVAySOGXX1XyzX"
            + "TkB2YNPWjjjj4CcgqsxOdHAFGqabmCrJSvNjnMVXw72rE4+jXPKWJLJadPH22kbsFavorToELy63onwSAPKPEvvG/E9B3l2Fikmn"
            + "BJvrg5X+yrC6UMxVj8JZZ+4nJdnhu43EJI99eC0PGnnerb+XcTLGQawN3G0CcPfRCkFJPp/tGYc3wr/Jr9cEsUrSYczLgFw5hsnX"
            + "V7B1Ysvm1Q83eb9WLrXhBU9Vq6VHtjiXDWxBvNvJxlT7nXJtIQl840YtUi5uqT0o21PgknOnkXeY9da8Pb9lvfvGX+rP7p+o+IJ1"
            + "qfd9ww2w8NTAIvsTKS5BU2t1eZegrLHN4e3xEBw2R0xQW2BkgYeKl6Chpq+0t9zg4+Tl/0JRYHiAho6hvdLk6ewUHTpERkhbaYmQ"
            + "oefwAAAAAAAAAAAAAAAAABApNkM="},
    };

    /** A good signature of nothing under "edge keys 3" with a hint where the rest is 0: no honest signer makes one. */
    static final String HINT_AT_ZERO =
        "n4feWr8UyzVdw/E8O7pxZoWijw0t6alQAOZFRbfQLn6IaPwlTxg4/HxaQiQdvjbU9HU5clJciRnLrBYH3F0Bi/OkKHBs2XWnVkJ6"
        + "tlm4OKQRuOlLReWdGlWLbelnKrUVIDkACK75I6gT8wVMWQrBzF51I2F50Dak7YUyfDkshDe2qYufpLRNPtoFPP77wiMTuJ2BH6un"
        + "LikugcSdgeDHW6DpKN8Eh6EkxeHAdisEeDNkpE7vctWXLw7QEswGXlwjcussWAq8N2Kf5YSluRStC8j9gJS/BwWd9bbvRGP/pjqw"
        + "XRBwdS3bgAC070Z3wEiytpwA/o9jdUg8nJ6oTHT187VGXkR80/hsJrQc5CK1DxrNx7Ad0dfgtPRgEaaeA7jIiwU7jQeM3pfQzNEy"
        + "59T8WV6eiRq8ju5V7eSwWpt8HXTHbi4tWJ+YHVsFf45tMXK57kPjmblxu1nDIkyETZpwr2v2Om5/947FLpw3ryPhydXVsgQ14pUt"
        + "Lf1VO5MLtyWBemcrSZWfg+EPfg4MhFXudf9kc5SS6o2F7BogmNNzqUBGXPvg8rhTBUP5eznQQyqsNK8e17aZ52avR99NMf/nlxYX"
        + "GLSlBxiwTdW9bcnEHx8m5/UrDpVJwa6gu+8uZKZc09kB5Be+6mro6tNqnJOnFZaQ0m4xKgi1OHmFzMY9Bw6hZPkanzgV9ypMRTgX"
        + "5GJDK86GiRgAkIY8no2wvF9gSBfVWlnDZrgTNMFn8q5FOSYrK8judzKLuxNnODvcu4+G2vyBzxEWqmJQZZ9i3W/t6p0ZXDe3GJmL"
        + "he2oX4CWdEUsicvzV6cBiQOg9sUNzxEMRph9wYteiFINtyVqRM6A8MsnYNW0nluk2EIcGDZUdohlm+bM8U5T/20nbmJYoY64y8YW"
        + "b9jBKMXGmTvVGtL97KhdMRJcqKxeHV/ogoVkGnUNdh9DBMQJt/oakXVZcEyGBHSFH4Cy+5roSv4cudWbjGZeo4be+qZXZhmpEQLa"
        + "Jg9n2+P94sZkxLfjXXRA7MOAMCLI1/M7DrWxStNA7Ut185UpQNBmycRo8sBdgRmTFwAsxBxBmY0LMmBxqmdc3pwq4GDBasbd+qkY"
        + "b/FJfyGp3kAF3NSyNTIINBgaRuHxKHcbFLo0sARcV3XBf44FCXOgan6nTWWWpmKAGmLIOO1Sxeu26PDC4M6ON5pnyHN/WbkzLGMt"
        + "3hQCZlgsuyS92wV+tMmNjckghk7fL4EAK9YJrgc1ReUGDaun0P82l2TBv9gugJt7tJYdmP4pZdIxjsdlRYtPOLpbJ5MSbZJXPSyb"
        + "1uwaEOo7fbivfvltVUlxocB8EGjTExewDVbE+jZzK5hr4c3VZNl8zWOdsjmP8VlpsoG8yhck49PKEiBqpS90wtJX/n9BfTe8LSCW"
        + "6f2RZbOilj2H0FnYjDIhx7CG2bzgUHPxDIXtSc2Gn86AeWkTIMNCPVixLhFqDtICSihgvCQKYhopE7VJpZBYGBgbViMbh/sOyWW5"
        + "Qk35suPQilPJYYbdF4zVNDYIUxYSxlDHQtHGDwaFiBaMZZy9FHvOFYcr9r7bYAcaBzbYe6Z2jDhMv92XpT9bRRsz5yAkh1wXfa7b"
        + "3P1xlBec20hAEgOyJYWS/ADoLrrLHChJm03H9zJQvxek6o+qId8UpnxQRlETYECnyYKn9WeTxmymdGEEt9KH5iHZuia3DZysAEgG"
        + "5Cd38QhWB9W1Kin4TdbHrIceWvAmIWrwZcRoL23J/a25trSh3vWDf01Gfqfly85ewhXtGHInwJFxCGXpM7rfPyDctK4QGB7FvpNx"
        + "GZ1boWw+1XJHMevSW0bm5B726xoveVcOGudml9LLIyGlKWhneuD1rhAqMlSfSpixZeTJ+Q92QhEqkLgaU5OviJj6K+ANt0VFYxfN"
        + "WZPl0LkjUYsTwn75O4cMqUnbr5KrsNH9TlWjRO4mrjRzc8fZEsPYRbCz9w41rcohhBk7RiOeTxvOcBUWYEnC1dw5MPQ7HpTRDvjU"
        + "5cE2uUrFFz76/FIoPOKrrTa0ewp8FLDBVWGdPHj9Vx6MfDXJ0qON6yod/Rmbgq86lzPm2Sxg7H06AqVzFdJQBe8FcNbNwIXv+K0w"
        + "vhoEeJgzXrf9ObFtoShvQmajVuSeGdg7kcmtGIinEvU1rFPIy+aKdVZRVjxVICFisQR1s8trG5c5zTlqXLKBUAzZzSTinpAWc9he"
        + "EX0677XrBgZaIwtggoSOW9TUff6n/LZ4QFSKBw0mEa3XsuWECx2ju0nI6MFmnfKbfkC5knqw56KIj0bqc9L/enLYgzgHwTjjAQPN"
        + "0iz7a8YA+rPK535rMkfyRtutkIIh14IfyQDBHxkZrtv+jMSmSP6E+rrAX1ncL+J3oKqPE9JLu5CmNJMySt5UMrL0ncHnku9kUjx+"
        + "GyK0vLjGfFJQO5F5oxUi6q2xsbqQp1NgyinXJFVJhfDJFUD2H/z9dF+Xsz73KAYmarWBW1x8/mhqLP8zJ+H42ufTXs1bNx5XfRiO"
        + "MtH1ppTqv55B184Wq1hPIgE+yHyWUoHwfVfdgU+7EaELHmlbKq65HB5/DsoLuXUJJr3oz/bBRzcEfTEI44E9W5X/8Lg/EUbSbjD6"
        + "2b1v8ZwlB5akvMA22XbWK6XmcAu995gXLlkbdrrQ3+DgfgvRIPjeNy0sC3NAE/MF59NfgnrBROEYvqRHikpiEt5JT8a61Fh1cSiE"
        + "gy9MduZI1PpBt7kPaRqWNjVD2d3AseBGAixUFVmk+TPZyyKRCe9Jkza1be66JkjaE4AD5DnkJ1fEox3Iihgf5n+l7Rt+LGEbjxY5"
        + "k5sY2Szt8qafCVUb3bESqaH+TNLPrwyuwiGL0ZVe0hXfvCNFmXz0G+EFA68btJ2XgxPcqG8uEtRAnWTitOk39HhF1JriEX/rbiZS"
        + "4Kwbp/0CeKbuLVklB92mFqexje1aHcy19B0EdrkBaO4hVO7EZCjhlAhmccvoqVzznCwJOz371KzaPBryU0YQGu0FD6l5PEQt3dEa"
        + "2gFtfmyUxpy7vyc4Ut/gkSmTvayh1oNtCh5QYvc1Ac3YdrKS54K9948DbEuT0gBvoExrDBb4m7ZOgXyKnP3uLt5Bf8gz0QGDQcsy"
        + "/ndsz+eENnWYkcAPICY6RUdcgIOElLK1uNrv8P4DCwwPH1Bjk5yu19vd4PkCJDI6UW5/gYKPkZOZo62vsMHe6gEFZG13eZy+y/sA"
        + "AAAAAAAAAAAAAAAAAAAAABIhNT8=";

    /** Keys whose matrix is drawn with the modulus itself among the numbers: set, case, SHA3-256 of the public part. */
    static final String[][] MATRIX = {
        {"3", "1483", "c3016b926b8f49110a571a508f2e717fc3bfb95debdf4a3c15bf55568ecc9c97"},
        {"4", "1207", "9c87d179d8406657663fb74e497d531a4ab5df144d0ea0762123e54ca5eaff3c"},
        {"5", "245", "3547af9c217451d00f0f65902b4f35355cce8eab2530f18aacd047cc8ae2f59e"},
    };

    /** Kind, length of the input ("shake"), length of the output, SHA3-256 of the output. */
    static final String[][] SHAKE = {
        {"2", "0", "32", "1f32c4b1a965fa9033b785c2a24b81dcd1bc81e9be0c204f20fdd15092bb6d4a"},
        {"2", "1", "33", "d0db44c1857eff2a87f4728a4fdd86fd99f19680dec438590e868ac11df16cdb"},
        {"2", "135", "136", "501b678152ac7c782144bd1bc67c55fc49e41d0515d383c3be1f0ed878430b89"},
        {"2", "136", "137", "6648036c0874f4d7854989487b9db767aa6c56297c5a4034f6c3d9454efcb75b"},
        {"2", "137", "135", "fd75be0f54b68c3fcda698fad8bdb13a22b4860a70ff29b3d2d04b714047814c"},
        {"2", "167", "168", "000b86fd1eab062901be0f3c37d11a12cd94426b160cb6a4dceb5f2a2216454b"},
        {"2", "168", "169", "b9b3f1e57a0033557d75dc8b3c967cd36c5af42f0d9a16afef02251322b527ac"},
        {"2", "169", "167", "71cbe5d629f615a200a2d954ebfd1e7c68f49346e57bacc5ed7d25b1a5eb3b67"},
        {"2", "200", "512", "079774be72ca20e84afc843928dbd23a53ac028ec13985266faf2a3f97716f1a"},
        {"2", "1000", "8192", "f7f2271bf15b93f35e6173856f206329d8344289052b3212d25abe374aa59e1b"},
        {"3", "0", "32", "46b14d3a928b31be5d9f6061fd205dd3d18098988afe3f1d5582236c4a55e937"},
        {"3", "1", "33", "80a3848b2bc8ccfc33cf59abdc54abff3a5c0368c87bda43a2c5145b57a2136c"},
        {"3", "135", "136", "996e4ba4e61007beb2beceae0858c798233f313cf140e4536fd1e2b514b68f9a"},
        {"3", "136", "137", "801676cabbeb55a009801dfe1180a68d9e4ed6c0bac6bb7805e0ef43075c5a6b"},
        {"3", "137", "135", "7a73dbdc9fc3db39812a987a887dc729bc92e8383dcbd035400f9c567dff32ee"},
        {"3", "167", "168", "4fd7b3aea6042a0f3a44b74a5b665aa5315decf85790a86e29c9dd59ca52f9a6"},
        {"3", "168", "169", "7bafb7478de2fd9c9ad3b888ad903ba44509055af7988a2b39abc0f6243c54b7"},
        {"3", "169", "167", "7c831baa04b4277b9287cd33bb1f64614db6fc3b092935af7e57c2040d8bb9ce"},
        {"3", "200", "512", "1703446c0100e2d2f2b8015212edce7666bdb5c44b8a0c6ba040e2af242c9d89"},
        {"3", "1000", "8192", "2846f05a6f8b8954bc68aa49d55bb4803f05cfc52b0ee9bbd0b0c8d0fde0389f"},
    };

    /** Kind, length of the input (8,192 bytes of SHAKE256 of nothing, twice), SHA3-256 of 8,191 (or 32, 64) bytes. */
    static final String[][] LONG_INPUT = {
        {"0", "16384", "e115a1134777538474a6b43ba2db8d6a3da5263ce15e0f62b90f9572c123a68c"},
        {"0", "16383", "f680374209f1e19d6fc5b140eebcd77eb619f87186138a3279eccd834a1bcd46"},
        {"0", "8192", "b6e589551c8d5bc0d9acdbb95c94788bb819ace27afecfb274a369adcdb0d421"},
        {"1", "16384", "484950f233d1ace58421932ab94b8aace0c6c9d1b5d1c0ef06b579a4894aaf10"},
        {"1", "16383", "47ef15497c5a9f85a5d269a77b5a51149798ef9949a8c236d9e990272602d9bc"},
        {"1", "8192", "f59e422e02734793a542546089c6518ca5c80f28509b97abc0ea243fe0e0a61f"},
        {"2", "16384", "ed6d39421ce6a2bee2426b37774547abba089b9a89c5d79e4aa10d58be7ed667"},
        {"2", "16383", "811295a7280a57ce7c368dec34f6fc50fc91d20bf2b09cf60ee38b635096532a"},
        {"2", "8192", "2570aa71ccac51eba1b40243063458d0ca2b13fc9fa6ed1ea22dca2e8d0566a9"},
        {"3", "16384", "59e5af2025dbe197e11f5dd23021a6863bd287be114dcf09753d5951831c54f0"},
        {"3", "16383", "3d65140bdab35478bb41ab314707e44f31b9a06dd1edce6ea923cfac135fd6b1"},
        {"3", "8192", "b7c1cfbb09340a164f5b1752cffc742ad695af3ebb9a275ca8796a72130bae6d"},
    };
}
